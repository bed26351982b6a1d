/** The boundary cases of promises 33 to 48, sentence by sentence of the document. */
public final class EdgeStoryTest {
    public static void main(String[] args) {
        stories();
        finds();
        fits();
        bests();
        doubts();
        flaws();
        words();
        saws();
        knews();
        blinds();
        musts();
        stations();
        times();
        speeds();
        races();
        Due.end("EdgeStoryTest");
    }

    private static void stories() {
        Script.holds("33: STORIES 0 .. 7",
            "story 0 0 1 = 63; story 7 0 2 = 63; story 8 0 3 = BAD; story -1 0 3 = BAD; story LOW 0 3 = BAD",
            "story HIGH 0 3 = BAD; story 0 0 63 = 1; story 7 0 63 = 2");
        Script.holds("33: SIDES 0, 1, each by itself",
            "story 3 0 5 = 63; story 3 1 6 = 63; story 3 2 7 = BAD; story 3 -1 7 = BAD; story 3 HIGH 7 = BAD",
            "story 3 0 0 = 5; story 3 1 0 = 6");
        Script.holds("33: a set is 0 .. 63",
            "story 4 1 0 = 63; story 4 1 63 = 0; story 4 1 64 = BAD; story 4 1 -1 = BAD; story 4 1 LOW = BAD",
            "story 4 1 HIGH = BAD; story 4 1 63 = 63");
    }

    private static void finds() {
        Script.holds("34: on is 0, 1",
            "piece 0 0 0; find 0 2 = BAD; find 0 -1 = BAD; find 0 HIGH = BAD; find 0 1 = 0; find 0 2 = BAD",
            "find 0 1 = 1; count 5 = 1; find 0 0 = 1; find 0 0 = 0; count 5 = 0");
        Script.holds("34: BAD: no such PART",
            "piece 0 0 0; find 1 1 = BAD; find -1 1 = BAD; find LOW 1 = BAD; find HIGH 1 = BAD; count 5 = 0");
        Script.holds("34: KIND: no PIECE, behind BAD",
            "4 x part @ 0 1 1 0; 4 x find @ 1 = KIND; 4 x find @ 0 = KIND; find 0 2 = BAD; find 3 -1 = BAD",
            "4 x told @ 11 = 0; count 5 = 0");
        Script.holds("34: PIECES in the first and the last place",
            "piece 0 0 0; 38 x part 0 0 1 1 0; piece 0 0 0 = 39; find 0 1 = 0; find 39 1 = 0; count 5 = 2",
            "count 4 = 2; find 40 1 = BAD");
    }

    private static void fits() {
        Script.holds("35: nothing FOUND: all FIT, whatever they let",
            "8 x story @ 0 0; 8 x story @ 1 0; fits = 255; piece 0 0 0; fits = 255; find 0 1; fits = 0; find 0 0",
            "fits = 255");
        Script.holds("35: the lowest and the highest BREAK",
            "piece 0 0 0; piece 0 5 0; story 0 0 62; story 1 0 31; story 7 0 33; find 0 1; fits = 254; find 1 1",
            "fits = 252; find 0 0; fits = 253");
        Script.holds("35: on its own SIDE alone",
            "piece 0 2 1; find 0 1; story 0 0 0; fits = 255; story 1 1 59; fits = 253; story 1 1 4; fits = 255");
        Script.holds("35: all FOUND PIECES",
            "piece 0 0 0; piece 0 1 1; story 2 0 1; story 2 1 2; story 3 0 1; story 3 1 1; story 4 0 2; story 4 1 2",
            "2 x find @ 1; fits = 231");
    }

    private static void bests() {
        Script.holds("36: NONE: no PIECE, or all FOUND",
            "best = NONE; part 0 0 1 1 0; best = NONE; piece 0 0 0; best = 1; find 1 1; best = NONE; find 1 0",
            "best = 1");
        Script.holds("36: of several the least number",
            "part 0 0 1 1 0; piece 0 5 1; piece 0 4 0; piece 0 3 1; best = 1; find 1 1; best = 2; find 2 1",
            "best = 3");
        Script.holds("36: the greatest number of its six BREAKS is least",
            "piece 0 0 0; piece 0 0 1; best = 0; story 0 1 62; best = 0; story 1 1 61; story 2 1 59; story 3 1 55",
            "story 4 1 47; best = 0; story 5 1 31; best = 1; story 6 0 0; best = 0");
        Script.holds("36: of STORIES that still FIT alone",
            "piece 0 0 0; piece 0 0 0; piece 0 0 1; 4 x story @ 0 62; 4 x story 4+@ 1 0; best = 2; find 0 1",
            "best = 2; 4 x story 4+@ 1 63; 4 x story @ 1 0; best = 1; story 4 1 0; best = 2");
        Script.holds("36: as it might show any, not as it does",
            "piece 0 0 0; piece 0 0 1; 8 x story @ 0 32; 8 x story @ 1 1; best = 0; story 0 1 2; best = 1");
        Script.holds("36: none is less than one",
            "piece 0 0 0; piece 0 0 1; 8 x story @ 1 0; 7 x story 1+@ 0 0; story 0 0 1; best = 1; story 0 0 0",
            "best = 0");
        Script.holds("36: none FITS: the least number",
            "piece 0 0 0; piece 0 0 1; piece 0 0 0; 8 x story @ 0 0; find 2 1; fits = 0; best = 0");
    }

    private static void doubts() {
        Script.holds("37: BAD: no such PART; KIND: a PIECE",
            "piece 0 0 0; doubt 0 = KIND; doubt 1 = BAD; doubt -1 = BAD; doubt HIGH = BAD; doubt LOW = BAD",
            "part 0 0 1 1 0; doubt 1 = 0");
        Script.holds("37: 2 from a FLAW of 1 on",
            "part 0 0 1 1 0; doubt 0 = 0; be 0 4 1; doubt 0 = 2; be 0 4 99; doubt 0 = 2; be 0 4 0; be 0 5 99",
            "doubt 0 = 0");
        Script.holds("37: 1: one LIKE it has a FLAW, ahead of it or behind it",
            "part 0 0 1 1 3; part 1 1 2 2 3; part 2 2 3 3 3; be 0 4 1; doubt 1 = 1; doubt 2 = 1; be 0 4 0; be 2 4 1",
            "doubt 0 = 1; doubt 1 = 1; doubt 2 = 2");
        Script.holds("37: by the same HAND in the same MONTH",
            "part 0 0 1 1 2; part 0 0 1 1 3; months 1 0; part 0 0 1 1 2; be 0 4 5; doubt 1 = 0; doubt 2 = 0",
            "part 0 0 1 1 3; be 3 4 5; doubt 1 = 0; doubt 2 = 0");
        Script.holds("37: others: its own FLAW alone is not LIKE it",
            "part 0 0 1 1 0; be 0 4 9; doubt 0 = 2; be 0 4 0; doubt 0 = 0");
        Script.holds("37: what is GONE counts, too",
            "part 0 0 1 1 1; part 0 4 999 1 1; be 0 4 5; fall 99 = 1; doubt 1 = 1; doubt 0 = 2");
        Script.holds("37: a PIECE is LIKE none", "piece 0 0 0; part 0 0 1 1 0; be 0 4 9 = KIND; doubt 1 = 0");
    }

    private static void flaws() {
        Script.holds("38: what is 0, 1",
            "flawed 0 = 0; flawed 1 = 0; flawed 2 = BAD; flawed -1 = BAD; flawed HIGH = BAD; flawed LOW = BAD");
        Script.holds("38: none, all, those LIKE them",
            "40 x part 0 0 1 1 @/10; flawed 0 = 0; flawed 1 = 0; be 0 4 1; flawed 0 = 1; flawed 1 = 10; be 39 4 99",
            "flawed 0 = 2; flawed 1 = 20; 40 x be @ 4 1; flawed 0 = 40; flawed 1 = 40");
        Script.holds("38: PIECES do not count",
            "piece 0 0 0; part 0 0 1 1 0; be 1 4 5; flawed 0 = 1; flawed 1 = 1; part 0 0 1 1 0; flawed 0 = 1",
            "flawed 1 = 2");
    }

    private static void words() {
        Script.holds("39: a DAY is 0 .. 9999",
            "word -1 0 1 0 = BAD; word 10000 0 1 0 = BAD; word LOW 0 1 0 = BAD; word HIGH 0 1 0 = BAD",
            "word 0 0 1 0 = 0; word 9999 0 1 0 = 1; count 7 = 2");
        Script.holds("39: OFFICES 0 .. 7",
            "word 5 -1 1 0 = BAD; word 5 8 1 0 = BAD; word 5 1 -1 0 = BAD; word 5 1 8 0 = BAD",
            "word 5 HIGH 0 0 = BAD; word 5 0 LOW 0 = BAD; word 5 0 7 0 = 0; word 5 7 0 0 = 1; count 7 = 2");
        Script.holds("39: BAD, if OFFICES are one",
            "8 x word 5 @ @ 0 = BAD; word 5 8 8 0 = BAD; word 5 -1 -1 0 = BAD; count 7 = 0; word 5 0 1 0 = 0");
        Script.holds("39: a MATTER is 0 .. 9",
            "word 5 0 1 -1 = BAD; word 5 0 1 10 = BAD; word 5 0 1 HIGH = BAD; word 5 0 1 0 = 0; word 5 0 1 9 = 1",
            "count 7 = 2; blind 0 = 1; blind 9 = 1");
        Script.holds("39: WORDS, 30 at most, numbered from 0, whatever their DAYS",
            "29 x word 29-@ 0 1 0 = @; word 0 0 1 9 = 29; word 5 0 1 0 = FULL; count 7 = 30; blind 0 = 29",
            "blind 9 = 1");
        Script.holds("39: BAD stands ahead of FULL",
            "30 x word 5 0 1 0; word 5 1 1 0 = BAD; word 10000 0 1 0 = BAD; word 5 8 1 0 = BAD; word 5 0 8 0 = BAD",
            "word 5 0 1 10 = BAD; word 5 0 1 0 = FULL");
        Script.holds("39: FULL: it is not told",
            "30 x word 5 0 1 0; saw 2 3 0; word 5 2 4 3 = FULL; knew 4 3 9999 = 0; blind 3 = 0");
    }

    private static void saws() {
        Script.holds("40: OFFICES 0 .. 7",
            "saw -1 0 5 = BAD; saw 8 0 5 = BAD; saw LOW 0 5 = BAD; saw HIGH 0 5 = BAD; saw 0 0 5 = 5; saw 7 0 6 = 6");
        Script.holds("40: MATTERS 0 .. 9",
            "saw 0 -1 5 = BAD; saw 0 10 5 = BAD; saw 0 LOW 5 = BAD; saw 0 HIGH 5 = BAD; saw 0 0 5 = 5",
            "saw 0 9 6 = 6");
        Script.holds("40: DAYS 0 .. 9999",
            "saw 0 0 -1 = BAD; saw 0 0 10000 = BAD; saw 0 0 LOW = BAD; saw 0 0 HIGH = BAD; knew 0 0 9999 = 0",
            "saw 0 0 9999 = 9999; knew 0 0 9999 = 1; knew 0 0 9998 = 0; saw 0 0 0 = 0; knew 0 0 0 = 1");
        Script.holds("40: of several the first DAY",
            "saw 3 3 50 = 50; saw 3 3 51 = 50; saw 3 3 50 = 50; saw 3 3 49 = 49; saw 3 3 9999 = 49; knew 3 3 48 = 0",
            "knew 3 3 49 = 1; saw 3 3 -1 = BAD; saw 3 3 99 = 49");
    }

    private static void knews() {
        Script.holds("41: OFFICES 0 .. 7, MATTERS 0 .. 9, DAYS 0 .. 9999",
            "knew -1 0 0 = BAD; knew 8 0 0 = BAD; knew 0 -1 0 = BAD; knew 0 10 0 = BAD; knew 0 0 -1 = BAD",
            "knew 0 0 10000 = BAD; knew LOW HIGH 0 = BAD; knew 0 0 HIGH = BAD; knew 0 0 0 = 0; knew 7 9 9999 = 0");
        Script.holds("4: who SAW it by then",
            "saw 7 9 5; knew 7 9 4 = 0; knew 7 9 5 = 1; knew 7 9 9999 = 1; knew 6 9 9999 = 0; knew 7 8 9999 = 0");
        Script.holds("4: told by a WORD of that DAY, not of a later one",
            "saw 0 0 5; word 7 0 1 0; knew 1 0 6 = 0; knew 1 0 7 = 1; knew 1 0 9999 = 1");
        Script.holds("4: whose teller KNEW it then: seen the same DAY, not the next one",
            "word 5 0 1 0; saw 0 0 6; knew 1 0 9999 = 0; saw 0 0 5; knew 1 0 5 = 1; knew 1 0 4 = 0");
        Script.holds("4: of one DAY by numbers",
            "saw 0 0 5; word 5 1 2 0; word 5 0 1 0; word 5 1 3 0; knew 1 0 5 = 1; knew 2 0 5 = 0; knew 3 0 5 = 1",
            "knew 2 0 9999 = 0");
        Script.holds("4: by DAYS, whatever their numbers",
            "saw 0 0 0; word 9 2 3 0; word 8 1 2 0; word 7 0 1 0; knew 3 0 9 = 1; knew 3 0 8 = 0; knew 2 0 8 = 1",
            "knew 2 0 7 = 0; knew 1 0 7 = 1");
        Script.holds("4: by DAYS, of one DAY by numbers, though told in turns",
            "saw 0 0 0; word 9 0 1 0; word 8 1 4 0; word 9 1 2 0; word 8 0 3 0; word 9 2 5 0; word 8 3 6 0",
            "knew 4 0 9 = 0; knew 3 0 8 = 1; knew 6 0 8 = 1; knew 1 0 8 = 0; knew 5 0 9 = 1; knew 2 0 8 = 0");
        Script.holds("4: by DAYS: one that is told later, of an earlier DAY, leaves the others as they are",
            "saw 2 1 0; saw 4 2 0; saw 6 3 0; word 9 2 3 1; word 8 4 5 2; word 7 6 7 3; knew 3 1 9 = 1",
            "knew 3 1 8 = 0; knew 5 2 8 = 1; knew 5 2 7 = 0; knew 7 3 7 = 1; knew 7 3 6 = 0; blind 1 = 0",
            "blind 2 = 0; blind 3 = 0");
        Script.holds("4: a WORD of another MATTER tells nothing", "saw 0 0 0; word 1 0 1 1; knew 1 0 9 = 0; knew 1 1 9 = 0");
        Script.holds("4: who KNEW keeps it", "saw 0 0 0; word 1 0 1 0; word 2 2 1 0; knew 1 0 9999 = 1; knew 0 0 9999 = 1");
        Script.holds("4: on the first and the last DAY",
            "saw 0 0 0; word 0 0 7 0; knew 7 0 0 = 1; saw 1 1 9999; word 9999 1 6 1; knew 6 1 9999 = 1",
            "knew 6 1 9998 = 0");
        Script.holds("4: the last of 30", "saw 0 0 0; 29 x word 5 7 6 1; word 5 0 1 0 = 29; knew 1 0 5 = 1");
    }

    private static void blinds() {
        Script.holds("42: MATTERS 0 .. 9",
            "blind 0 = 0; blind 9 = 0; blind 10 = BAD; blind -1 = BAD; blind LOW = BAD; blind HIGH = BAD");
        Script.holds("4: BLIND: the teller did not know, on that DAY",
            "word 5 0 1 0; blind 0 = 1; saw 0 0 6; blind 0 = 1; saw 0 0 5; blind 0 = 0; blind 1 = 0");
        Script.holds("4: BLIND: of one DAY by numbers", "saw 0 0 5; word 5 1 2 0; word 5 0 1 0; word 5 1 2 0; blind 0 = 1");
        Script.holds("4: BLIND: what a blind one tells leaves others blind",
            "word 5 0 1 0; word 6 1 2 0; word 7 2 3 0; blind 0 = 3; saw 1 0 6; blind 0 = 1");
        Script.holds("4: BLIND: all 30", "30 x word @ 0 1 3; blind 3 = 30; saw 0 3 29; blind 3 = 29; saw 0 3 0; blind 3 = 0");
    }

    private static void musts() {
        Script.holds("43: MATTERS 0 .. 9, DAYS 0 .. 9999",
            "must -1 0 = BAD; must 10 0 = BAD; must 0 -1 = BAD; must 0 10000 = BAD; must LOW 0 = BAD",
            "must 0 HIGH = BAD; must 0 0 = 0; must 9 9999 = 0");
        Script.holds("43: without a TEXT none must", "8 x saw @ 0 0; must 0 9999 = 0");
        Script.holds("43: OFFICES 0 .. 7 as bits",
            "8 x saw @ 0 @; law 'tell 1' 0; must 0 0 = 1; must 0 1 = 3; must 0 6 = 127; must 0 7 = 255",
            "must 0 9999 = 255; must 1 9999 = 0");
        Script.holds("43: for which tell is not 0: o the OFFICE, x the MATTER",
            "8 x saw @ 4 0; 8 x saw @ 9 0; law 'tell o-x' 0; must 4 0 = 239; must 9 0 = 255; law 'tell o=7' 0",
            "must 9 0 = 128; law 'tell x=4' 0; must 4 0 = 255; must 9 0 = 0");
        Script.holds("43: the TEXT of this MONTH", "saw 0 0 0; law 'tell 1' 1; must 0 0 = 0; months 1 0; must 0 0 = 1");
        Script.holds("43: on that DAY, by WORDS, too",
            "saw 0 0 3; word 5 0 7 0; word 5 6 5 0; law 'tell 1' 0; must 0 2 = 0; must 0 3 = 1; must 0 4 = 1",
            "must 0 5 = 129; must 0 9999 = 129");
    }

    private static void stations() {
        Script.holds("44: 0 .. 999 each",
            "station -1 0 0 = BAD; station 1000 0 0 = BAD; station 0 -1 0 = BAD; station 0 1000 0 = BAD",
            "station 0 0 -1 = BAD; station 0 0 1000 = BAD; station LOW 0 0 = BAD; station 0 HIGH 0 = BAD",
            "station 0 0 LOW = BAD; count 8 = 0; aboard 1 = 0; station 0 0 0 = 0; aboard 1 = 0",
            "station 999 999 999 = 1; aboard 0 = 999; aboard 1 = 2997");
        Script.holds("4: STATIONS, 8 at most, numbered from 0",
            "8 x station 999 999 999 = @; station 1 1 1 = FULL; count 8 = 8; aboard 0 = 7992; aboard 1 = 23976");
        Script.holds("44: BAD stands ahead of FULL",
            "8 x station 0 0 0; station 1000 0 0 = BAD; station 0 -1 0 = BAD; station 0 0 1000 = BAD",
            "station 0 0 0 = FULL");
        Script.holds("45: what is 0, 1",
            "station 1 2 4; aboard 0 = 1; aboard 1 = 7; aboard 2 = BAD; aboard -1 = BAD; aboard HIGH = BAD",
            "aboard LOW = BAD");
        Script.holds("4: least: all TAKEN; most: these, SEASONS and CHILDREN",
            "station 0 5 0; aboard 0 = 0; aboard 1 = 5; station 0 0 7; aboard 0 = 0; aboard 1 = 12; station 3 0 0",
            "aboard 0 = 3; aboard 1 = 15");
    }

    private static void times() {
        Script.holds("46: MILES 0 .. 999",
            "time -1 0 0 1 = BAD; time 0 0 1000 1 = BAD; time 1000 0 1000 1 = BAD; time 0 0 -1 1 = BAD",
            "time LOW 0 0 1 = BAD; time 0 0 HIGH 1 = BAD; time 0 0 0 1 = 0; time 999 0 999 1 = 1",
            "time 0 0 999 1 = 2");
        Script.holds("46: b not below a",
            "time 5 0 4 1 = BAD; time 999 0 0 1 = BAD; time 5 0 5 1 = 0; time 5 0 6 1 = 1; speed 0 = 0",
            "speed 1 = 3600");
        Script.holds("46: SECONDS 0 .. 99999",
            "time 0 -1 1 1 = BAD; time 0 0 1 100000 = BAD; time 0 LOW 1 1 = BAD; time 0 0 1 HIGH = BAD",
            "time 0 99999 1 100000 = BAD; time 0 0 1 1 = 0; time 0 99998 1 99999 = 1; time 0 0 1 99999 = 2");
        Script.holds("46: the second one later",
            "time 0 5 1 5 = BAD; time 0 5 1 4 = BAD; time 0 0 1 0 = BAD; time 0 99999 1 99999 = BAD",
            "time 0 5 1 6 = 0; count 9 = 1");
        Script.holds("4: TIMES, 16 at most, numbered from 0",
            "15 x time 0 0 @ 3600 = @; time 0 0 999 3600 = 15; time 0 0 1 1 = FULL; count 9 = 16; 15 x speed @ = @",
            "speed 15 = 999");
        Script.holds("46: BAD stands ahead of FULL",
            "16 x time 0 0 0 1; time 1000 0 1000 1 = BAD; time 5 0 4 1 = BAD; time 0 1 0 1 = BAD",
            "time 0 0 0 100000 = BAD; time 0 0 0 1 = FULL");
    }

    private static void speeds() {
        Script.holds("47: BAD: no such TIME",
            "speed 0 = BAD; time 0 0 1 1 = 0; speed 0 = 3600; speed 1 = BAD; speed -1 = BAD; speed HIGH = BAD",
            "speed LOW = BAD");
        Script.holds("4: from MILE a to MILE b, from one SECOND to the other",
            "time 300 100 302 107; time 998 99998 999 99999; time 0 0 302 107; speed 0 = 1028; speed 1 = 3600",
            "speed 2 = 10160");
        Script.holds("4: 3600 times MILES by SECONDS, cut",
            "time 0 0 1 3600; time 0 0 1 3601; time 0 0 1 3599; time 0 0 2 7; time 0 0 999 1; time 0 0 999 99999",
            "time 7 50 7 99; speed 0 = 1; speed 1 = 0; speed 2 = 1; speed 3 = 1028; speed 4 = 3596400; speed 5 = 35",
            "speed 6 = 0");
    }

    private static void races() {
        Script.holds("48: v is 0 and more", "races 0 = 0; races HIGH = 0; races -1 = BAD; races LOW = BAD; races NONE = BAD");
        Script.holds("4: above, not as much",
            "time 0 0 1 3600; time 0 0 2 3600; time 0 0 3 3600; time 0 0 0 1; races 0 = 3; races 1 = 2; races 2 = 1",
            "races 3 = 0");
        Script.holds("4: SPEED as told, which is cut", "time 0 0 1 3599; time 0 0 1 1801; races 1 = 0; races 0 = 2");
        Script.holds("48: all 16, the fastest of all", "16 x time 0 0 999 1; races 3596399 = 16; races 3596400 = 0");
    }
}
