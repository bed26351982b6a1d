/** The boundary cases of promises 25 to 32, sentence by sentence of the document. */
public final class EdgeNightTest {
    public static void main(String[] args) {
        months();
        shaken();
        mended();
        shakes();
        trusts();
        gusts();
        runs();
        nights();
        whereTheTrainIs();
        trainsDown();
        judged();
        fasts();
        Due.end("EdgeNightTest");
    }

    private static void months() {
        Script.holds("25: n is 1 .. 60",
            "months 0 0 = BAD; months 61 0 = BAD; months -1 0 = BAD; months LOW 0 = BAD; months HIGH 0 = BAD",
            "months 1 0 = 1; months 60 0 = 61; count 13 = 61");
        Script.holds("25: TRAINS 0 .. 999",
            "months 1 -1 = BAD; months 1 1000 = BAD; months 1 LOW = BAD; months 1 HIGH = BAD; months 1 0 = 1",
            "months 1 999 = 2; count 13 = 2");
        Script.holds("25: FULL: it would be above 599",
            "9 x months 60 0 = 60*@+60; months 60 0 = FULL; count 13 = 540; months 59 0 = 599; months 1 0 = FULL",
            "months 60 0 = FULL; count 13 = 599");
        Script.holds("25: FULL: no MONTH of them goes by",
            "part 2 0 9 1 0; law 'mend s<9' 0; 9 x months 60 0; months 58 0 = 598; be 0 5 20; months 2 999 = FULL",
            "told 0 5 = 20; count 13 = 598; months 1 999 = 599; told 0 5 = 69");
        Script.holds("25: BAD stands ahead of FULL",
            "9 x months 60 0; months 59 0 = 599; months 61 0 = BAD; months 0 0 = BAD; months 1 1000 = BAD",
            "months 1 -1 = BAD; months 1 0 = FULL");
    }

    private static void shaken() {
        Script.holds("3: SHAKE times TRAINS by 100, cut, MONTH by MONTH",
            "part 2 0 9 1 0; months 1 19; told 0 5 = 0; months 1 20; told 0 5 = 1; months 1 39; told 0 5 = 2",
            "months 60 39; told 0 5 = 62");
        Script.holds("3: 99 at most",
            "part 2 0 9 1 0; part 3 0 9 1 0; be 1 5 98; months 1 40; told 0 5 = 2; told 1 5 = 99; be 1 5 97",
            "months 1 40; told 1 5 = 99; be 0 5 99; months 1 999; told 0 5 = 99");
        Script.holds("3: the most of all",
            "shake 99; part 3 0 9 1 0; months 1 999; told 0 5 = 99; shake 9; be 0 5 0; months 1 999; told 0 5 = 89");
        Script.holds("3: no TRAINS, no SHAKE: no more SLACK",
            "part 2 0 9 1 0; months 60 0; told 0 5 = 0; shake 0; months 60 999; told 0 5 = 0");
        Script.holds("3: TIES and LUGS alone",
            "4 x part @ 0 9 1 0; piece 0 0 0; months 1 100; told 0 5 = 0; told 1 5 = 0; told 2 5 = 5; told 3 5 = 5",
            "told 4 5 = 0; 5 x told @ 4 = 0");
        Script.holds("3: that STAND",
            "part 2 0 1 1 0; part 3 4 999 1 0; fall 99 = 1; months 1 100; told 0 5 = 0; told 1 5 = 5; raise",
            "months 1 100; told 0 5 = 5; told 1 5 = 10");
    }

    private static void mended() {
        Script.holds("3: MENDED: SLACK 0, FLAW as it was",
            "part 2 0 9 1 0; be 0 4 50; be 0 5 60; law 'mend 1' 0; months 1 100; told 0 5 = 0; told 0 4 = 50");
        Script.holds("3: mend is asked behind the shaking",
            "part 2 0 9 1 0; law 'mend s=5' 0; months 1 100; told 0 5 = 0; be 0 5 5; months 1 100; told 0 5 = 10",
            "be 0 5 1; months 1 100; told 0 5 = 6",
            "months 1 0; told 0 5 = 6");
        Script.holds("3: each PART that STANDS, whatever its KIND; no PIECE",
            "4 x part @ 0 999 1 0; piece 0 0 0; 4 x be @ 5 7; law 'mend k<2' 0; months 1 0; told 0 5 = 0",
            "told 1 5 = 0; told 2 5 = 7; told 3 5 = 7; law 'mend k=3' 1; months 1 0; told 2 5 = 7; told 3 5 = 0");
        Script.holds("3: what is GONE is not MENDED",
            "part 2 0 1 1 0; be 0 5 40; fall 99 = 1; law 'mend 1' 0; months 1 100; told 0 5 = 40; raise",
            "months 1 100; told 0 5 = 0");
        Script.holds("3: what is not 0: below 0, too",
            "part 2 0 9 1 0; be 0 5 9; law 'mend 0-f' 0; months 1 0; told 0 5 = 9; be 0 4 1; months 1 0",
            "told 0 5 = 0");
        Script.holds("3: of the MONTH that goes by, not of the next one",
            "part 1 0 9 1 0; be 0 5 9; law 'mend 1' 1; months 1 0; told 0 5 = 9; months 1 0; told 0 5 = 0");
        Script.holds("3: of each MONTH that goes by its own",
            "part 2 0 9 1 0; law 'mend 1' 3; law 'mend 0' 4; months 6 100 = 6; told 0 5 = 10");
        Script.holds("3: without a TEXT nothing is MENDED", "part 2 0 9 1 0; be 0 5 9; months 60 0; told 0 5 = 9");
    }

    private static void shakes() {
        Script.holds("26: SHAKE is 0 .. 99",
            "shake 0 = 5; shake 99 = 0; shake 100 = BAD; shake -1 = BAD; shake LOW = BAD; shake HIGH = BAD",
            "shake 5 = 99");
    }

    private static void trusts() {
        Script.holds("27: the first MONTH behind which SLACK would be 50 or more",
            "part 2 0 9 1 0; be 0 5 44; trust 0 100 = 1; be 0 5 45; trust 0 100 = 0; be 0 5 46; trust 0 100 = 0",
            "be 0 5 0; trust 0 100 = 9");
        Script.holds("27: it is so already",
            "part 2 0 9 1 0; be 0 5 50; trust 0 0 = 0; be 0 5 49; trust 0 0 = NONE; trust 0 19 = NONE",
            "trust 0 20 = 0; be 0 5 99; trust 0 999 = 0");
        Script.holds("27: from this MONTH on, above MONTH 599, too",
            "part 3 0 9 1 0; months 60 0; trust 0 20 = 109; 8 x months 60 0; months 59 0 = 599; trust 0 20 = 648",
            "be 0 5 50; trust 0 0 = 599");
        Script.holds("27: NONE: never",
            "part 2 0 9 1 0; trust 0 0 = NONE; shake 0; trust 0 999 = NONE; shake 1; trust 0 99 = NONE",
            "trust 0 100 = 49");
        Script.holds("27: TRAINS 0 .. 999",
            "part 2 0 9 1 0; trust 0 999 = 1; trust 0 1000 = BAD; trust 0 -1 = BAD; trust 0 LOW = BAD",
            "trust 0 HIGH = BAD");
        Script.holds("27: BAD: no such PART",
            "part 2 0 9 1 0; trust 1 100 = BAD; trust -1 100 = BAD; trust HIGH 100 = BAD; trust NONE 0 = BAD");
        Script.holds("27: KIND: no TIE, LUGS are; behind BAD, ahead of NONE",
            "4 x part @ 0 9 1 0; piece 0 0 0; trust 0 100 = KIND; trust 1 100 = KIND; trust 2 100 = 9",
            "trust 3 100 = 9; trust 4 100 = KIND; trust 0 1000 = BAD; trust 4 -1 = BAD; trust 0 0 = KIND",
            "trust 2 0 = NONE");
        Script.holds("27: nothing being MENDED; a GONE one as if it stood",
            "part 2 0 1 1 0; law 'mend 1' 0; trust 0 100 = 9; fall 99 = 1; trust 0 100 = 9; be 0 5 40",
            "trust 0 100 = 1");
        Script.holds("27: cut MONTH by MONTH", "part 2 0 9 1 0; trust 0 39 = 49; shake 3; trust 0 66 = 49; trust 0 67 = 24");
    }

    private static void gusts() {
        Script.holds("28: SECONDS 0 .. 59",
            "gust 0 1 = 0; gust 59 2 = 0; gust 60 1 = BAD; gust -1 1 = BAD; gust LOW 1 = BAD; gust HIGH 1 = BAD",
            "gust NONE 1 = BAD; gust 0 0 = 1; gust 59 0 = 2");
        Script.holds("28: a GUST is 0 .. 99",
            "gust 7 99 = 0; gust 7 100 = BAD; gust 7 -1 = BAD; gust 7 LOW = BAD; gust 7 0 = 99; gust 7 0 = 0");
    }

    private static void runs() {
        Script.holds("29: SECONDS 0 .. 59, or NONE",
            "runs 0 1 = 1; runs 59 1 = 1; runs 60 1 = BAD; runs -1 1 = BAD; runs LOW 1 = BAD; runs HIGH 1 = BAD",
            "night 59; count 14 = 0; runs NONE 1 = 1; night 59; count 14 = NONE");
        Script.holds("29: SPEED 1 .. 20",
            "runs 0 1 = 1; runs 0 20 = 1; runs 0 21 = BAD; runs 0 0 = BAD; runs 0 -1 = BAD; runs 0 HIGH = BAD",
            "night 2; count 14 = 2");
        Script.holds("29: BAD: a wrong SPEED, though it does not come",
            "runs NONE 0 = BAD; runs NONE 21 = BAD; runs NONE 20 = 1");
        Script.holds("29: it does not come, at first", "night 59 = 0; count 14 = NONE; count 15 = 0");
        Script.holds("29: a refused call leaves SECOND and SPEED as they were",
            "runs 3 10 = 1; runs 60 20 = BAD; runs 1 21 = BAD; night 2; count 14 = NONE; night 3; count 14 = 0",
            "night 4; count 14 = 0; night 5; count 14 = 1");
    }

    private static void nights() {
        Script.holds("30: SECONDS 0 .. 59",
            "night 0 = 0; night 59 = 0; night 60 = BAD; night -1 = BAD; night LOW = BAD; night HIGH = BAD",
            "night NONE = BAD");
        Script.holds("30: up to SECOND n, that one, too",
            "part 0 0 1 1 0; gust 59 99; night 58 = 0; count 1 = 0; night 59 = 1; count 1 = 1");
        Script.holds("30: from SECOND 0 on", "part 0 0 1 1 0; gust 0 99; night 0 = 1; raise; gust 0 0; night 59 = 0");
        Script.holds("30: how many are GONE, those of before, too",
            "part 0 0 1 1 0; part 0 4 700 1 0; fall 50 = 1; gust 5 99; night 4 = 1; night 5 = 2; count 3 = 2");
        Script.holds("30: as THE NIGHT begins THE TRAIN is on none, and up",
            "part 0 0 1 1 0; train 0; fall 99 = 1; count 15 = 1; night 0 = 1; count 15 = 0; train 2; night 0 = 1",
            "count 14 = NONE");
        Script.holds("30: a refused call leaves THE TRAIN where it is",
            "train 2; night 60 = BAD; count 14 = 2; night -1 = BAD; count 14 = 2");
        Script.holds("30: a GUST takes what it takes in its SECOND alone",
            "part 0 0 100 1 0; part 0 0 100 1 0; gust 0 30; gust 1 31; gust 2 20; night 0 = 0; night 1 = 2",
            "count 1 = 1");
        Script.holds("30: all stays as it is behind that",
            "part 0 0 1 1 0; runs 0 20; gust 1 99; span -1 1 1; night 1 = 1; count 14 = 1; has 0 2 = 1; has 1 3 = 1");
    }

    private static void whereTheTrainIs() {
        Script.holds("3: on SPAN 0 from its SECOND on, at SPEED 1 for 20 SECONDS",
            "runs 1 1; night 0; count 14 = NONE; night 1; count 14 = 0; night 20; count 14 = 0; night 21",
            "count 14 = 1; night 40; count 14 = 1; night 41; count 14 = 2; night 59; count 14 = 2");
        Script.holds("3: at SPEED 20 one SECOND on each SPAN",
            "runs 0 20; night 0; count 14 = 0; night 1; count 14 = 1; night 3; count 14 = 3; night 4",
            "count 14 = NONE; count 15 = 0; night 59; count 14 = NONE");
        Script.holds("3: (s - SECOND) times SPEED / 20, cut",
            "runs 0 13; night 1; count 14 = 0; night 2; count 14 = 1; night 3; count 14 = 1; night 4; count 14 = 2",
            "night 5; count 14 = 3; night 6; count 14 = 3; night 7; count 14 = NONE");
        Script.holds("3: onto SPAN 0 in the last SECOND", "runs 59 20; night 58; count 14 = NONE; night 59; count 14 = 0");
        Script.holds("3: as long as there is such a SPAN: the most",
            "spans 12; runs 0 20; night 11; count 14 = 11; night 12; count 14 = NONE; spans 2; night 1",
            "count 14 = 1; night 2; count 14 = NONE");
        Script.holds("3: THE TRAIN is where it comes ahead of THE FALL",
            "part 0 0 100 1 0; span -1 1 50; runs 3 20; 6 x gust @ 5; night 2 = 0; night 3 = 1; count 15 = 1");
        Script.holds("3: with the SAIL and WEIGHT of THE TRAIN on that SPAN alone",
            "part 0 4 100 1 0; span -1 1 50; runs 0 20; 6 x gust @ 5; night 2 = 0; count 14 = 2; night 3 = 1",
            "has 3 2 = 1; count 15 = 1");
    }

    private static void trainsDown() {
        Script.holds("3: DOWN if its SPAN is DOWN as it comes",
            "part 0 0 1 1 0; fall 99 = 1; runs 5 20; night 4; count 15 = 0; night 5; count 15 = 1; count 14 = NONE",
            "night 59; count 15 = 1");
        Script.holds("3: DOWN as it comes onto a later one",
            "part 0 4 1 1 0; fall 99 = 1; runs 0 20; night 2; count 14 = 2; count 15 = 0; night 3; count 15 = 1",
            "count 14 = NONE; night 4; count 15 = 1");
        Script.holds("3: DOWN in whatever SECOND it is on it",
            "part 0 2 1 1 0; gust 25 99; runs 0 1; night 24 = 0; count 14 = 1; night 25 = 1; count 15 = 1",
            "count 14 = NONE; has 1 2 = 1; night 59 = 1; count 15 = 1");
        Script.holds("3: not DOWN if it has just left it, but in another NIGHT, as that is DOWN then",
            "part 0 0 1 1 0; gust 1 99; runs 0 20; night 1 = 1; has 0 2 = 1; count 14 = 1; count 15 = 0",
            "night 59 = 1; count 15 = 1");
        Script.holds("3: not DOWN behind the last one",
            "part 0 4 1 1 0; gust 4 99; runs 0 20; night 4 = 1; has 3 2 = 1; count 15 = 0; count 14 = NONE; raise; night 59 = 1",
            "count 15 = 0; count 14 = NONE");
        Script.holds("3: stays DOWN, though the SPAN where it would be is up",
            "part 0 1 1 1 0; fall 99 = 1; runs 0 20; night 0; count 15 = 1; night 2; count 15 = 1; count 14 = NONE",
            "has 2 3 = 0");
        Script.holds("3: DOWN it pulls no more",
            "part 0 1 1 1 0; part 0 3 300 1 0; fall 20 = 1; span -1 1 99; runs 0 20; 9 x gust @ 20; night 9 = 1",
            "told 1 8 = 1");
        Script.holds("3: not DOWN it pulls at both PIERS of its SPAN",
            "part 0 3 300 1 0; span -1 1 99; runs 0 20; 9 x gust @ 20; night 1 = 0; night 2 = 1; count 15 = 1",
            "count 1 = 2");
    }

    private static void judged() {
        Script.holds("31: BAD: no such PIER",
            "judged 0 = 0; judged 4 = 0; judged 5 = BAD; judged -1 = BAD; judged LOW = BAD; judged HIGH = BAD",
            "judged NONE = BAD");
        Script.holds("31: at 10 without a TEXT",
            "span 0 0 0; part 0 0 99 1 0; judged 0 = 1; part 0 0 99 1 0; judged 0 = 0; judged 1 = 0");
        Script.holds("31: OVER, not as much", "span 0 0 0; part 0 0 100 1 0; judged 0 = 0; span 0 1 11; judged 0 = 1");
        Script.holds("31: THE RULE is held within 0 .. 99",
            "part 0 0 889 1 0; law 'wind 98' 0; judged 0 = 0; law 'wind 99' 0; judged 0 = 1; law 'wind 100' 0",
            "judged 0 = 1; law 'wind 9999*9999*9' 0; judged 0 = 1; law 'wind 0-9999' 0; judged 0 = 0",
            "law 'wind 0-1' 0; judged 0 = 0; span 0 0 0; law 'wind 0' 0; judged 0 = 0");
        Script.holds("31: held at 99, not above",
            "part 0 0 890 1 0; law 'wind 100' 0; judged 0 = 0; law 'wind 9999' 0; judged 0 = 0; span 0 0 9",
            "judged 0 = 1");
        Script.holds("31: held at 0, not at 1",
            "span 0 0 0; span 0 1 99; part 0 0 1 1 0; law 'wind 1' 0; judged 0 = 1; law 'wind 0' 0; judged 0 = 0",
            "law 'wind 0-1' 0; judged 0 = 0; law 'wind 0-9999' 0; judged 0 = 0");
        Script.holds("31: p is the PIER, m the MONTH",
            "spans 2; span 0 0 0; span 1 0 0; part 0 0 20 1 0; part 0 2 20 1 0; law 'wind p+m' 0; judged 0 = 0",
            "judged 2 = 0; months 1 0; judged 2 = 1; judged 0 = 0; months 1 0; judged 0 = 0; months 1 0",
            "judged 0 = 1");
        Script.holds("31: there, not elsewhere; of what STANDS",
            "part 0 4 1 1 0; law 'wind 99' 0; judged 4 = 1; judged 0 = 0; judged 3 = 0; fall 99 = 1; judged 4 = 0");
        Script.holds("31: any PART there, not the first alone",
            "span 0 0 0; part 0 0 999 1 0; part 0 0 1 1 0; judged 0 = 1; be 0 4 9; judged 0 = 1");
        Script.holds("31: of 40 PARTS, the last one, too",
            "span 0 0 0; 39 x part 0 0 999 1 0; judged 0 = 0; part 0 0 1 9 0; judged 0 = 1; judged 4 = 0");
        Script.holds("31: nothing goes by it", "part 0 0 1 1 0; law 'wind 99' 0; judged 0 = 1; told 0 8 = 1; count 1 = 0");
    }

    private static void fasts() {
        Script.holds("32: a speed is 0 .. 999",
            "fast 0 0 = 0; fast 999 0 = 1; fast 1000 0 = BAD; fast -1 0 = BAD; fast LOW 0 = BAD; fast HIGH 0 = BAD");
        Script.holds("32: a GUST is 0 .. 99", "fast 0 99 = 0; fast 0 100 = BAD; fast 0 -1 = BAD; fast 0 HIGH = BAD");
        Script.holds("32: above THE RULE, not as much; 99 without a TEXT", "fast 98 0 = 0; fast 99 99 = 0; fast 100 99 = 1");
        Script.holds("32: THE RULE is not held",
            "law 'speed 0-1' 0; fast 0 0 = 1; law 'speed 9999' 0; fast 999 0 = 0; law 'speed 998' 0; fast 999 0 = 1",
            "fast 998 0 = 0");
        Script.holds("32: w is THE TRAIN's WEIGHT, g the GUST",
            "span -1 0 40; span -1 1 7; law 'speed w-g' 0; fast 40 0 = 0; fast 41 0 = 1; fast 10 30 = 0",
            "fast 11 30 = 1; fast 0 41 = 1; fast 0 40 = 0");
    }
}
