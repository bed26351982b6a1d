/**
 * "A call that is refused ... changes nothing": each refusal of each call, on an object on which nothing is as at first,
 * neither now nor in its image. Script looks at all that later calls show.
 */
public final class EdgeRefusalTest {
    private static final String[] USED = {
        "spans 5; 5 x span @ 0 20+@; 5 x span @ 1 30+@; span -1 0 40; span -1 1 41",
        "part 0 0 500 2 1; part 1 1 1 3 2; part 2 2 600 4 3; part 3 3 700 5 4; part 2 3 710 6 5; piece 4 5 1; piece 5 3 0",
        "find 5 1; 5 x be @ 4 10+@; 5 x be @ 5 20+@; months 3 10; shake 7; gust 0 5; gust 1 9; gust 59 6; runs 2 9",
        "law 'wind p+m' 0; law 'speed w-g' 2; law 'mend s>90' 0; law 'tell o>2' 0",
        "8 x story @ 0 40+@; 8 x story @ 1 50+@; word 5 0 1 0; word 4 1 2 0; word 6 2 3 1; saw 0 0 2; saw 2 1 7; saw 7 9 9",
        "station 5 6 7; station 1 2 3; time 0 0 5 100; time 1 5 9 300; strap 2; strap 3",
        "test 0 0 5; test 1 1 5; put 0 1 7; put 0 2 NONE; put 0 3 9; put 1 0 5; put 1 4 6; test 2 0 0",
        "fall 14 = 1; count 1 = 2; train 3 = NONE; keep = 3",
        "be 0 4 50; months 1 50 = 4; span 2 0 33; gust 3 4; word 1 3 4 2; saw 5 5 5; part 0 4 400 1 0 = 7; train 4",
        "type 'wind 77'; tell 3; tell 4"};

    public static void main(String[] args) {
        bridge();
        parts();
        falls();
        tapes();
        months();
        stories();
        words();
        papers();
        tests();
        copies();
        straps();
        checks();
        asking();
        asking2();
        noImage();
        Due.end("EdgeRefusalTest");
    }

    private static void refused(String calls, String... lines) {
        String[] all = java.util.Arrays.copyOf(USED, USED.length + lines.length);
        System.arraycopy(lines, 0, all, USED.length, lines.length);
        Script.holds("a refused call changes nothing: " + calls, all);
    }

    private static void bridge() {
        refused("spans, span, has, train",
            "spans 1 = BAD; spans 13 = BAD; spans 4 = NO; spans 5 = NO; spans 12 = NO",
            "span 5 0 1 = BAD; span -2 1 1 = BAD; span 0 2 1 = BAD; span 0 -1 1 = BAD; span 2 0 100 = BAD; span 3 1 -1 = BAD",
            "span -1 0 100 = BAD; span -1 1 -1 = BAD; span -1 2 5 = BAD; has 5 0 = BAD; has 0 4 = BAD; has -1 0 = BAD",
            "train 5 = BAD; train -1 = BAD; train 0 = NO; train 1 = NO; count 14 = 4");
    }

    private static void parts() {
        refused("part, piece, told, as, be",
            "part 4 0 1 1 0 = BAD; part -1 0 1 1 0 = BAD; part 0 6 1 1 0 = BAD; part 0 0 1000 1 0 = BAD; part 0 0 1 10 0 = BAD",
            "part 0 0 1 1 6 = BAD; piece 6 0 0 = BAD; piece 0 6 0 = BAD; piece 0 0 2 = BAD; told 8 0 = BAD; told 0 12 = BAD",
            "as 8 0 = BAD; as 0 5 = BAD; as 0 1 = KIND; be 8 4 1 = BAD; be 0 3 1 = BAD; be 0 6 1 = BAD; be 0 4 100 = BAD",
            "be 0 5 -1 = BAD; be 5 4 1 = KIND; be 5 5 1 = KIND; be 6 4 0 = KIND");
        refused("part, piece: FULL",
            "32 x part 3 1 9 9 5; part 0 0 1 1 0 = FULL; part 3 5 999 9 5 = FULL; piece 0 0 0 = FULL; piece 5 5 1 = FULL");
    }

    private static void falls() {
        refused("pull, load, bears, first, fall, next",
            "pull 6 0 = BAD; pull 0 100 = BAD; load 8 0 = BAD; load 0 100 = BAD; load 1 5 = NO; load 5 5 = NO; bears 8 = BAD",
            "first 100 = BAD; first -1 = BAD; fall 100 = BAD; fall -1 = BAD; next 100 0 = BAD; next 99 -1 = BAD");
    }

    private static void tapes() {
        refused("feed, trim", "8 x trim 7; trim 8 = BAD; trim -1 = BAD; 7 x feed 1 2 3; feed 1 2 3 = FULL; trim 92 = BAD");
        refused("text", "text 600 = BAD; type 'wind 78'; text -1 = BAD; type 'wind 79 ?'; text 0 = -108; text 0 = -100");
        refused("text: FULL",
            "text 0 = 4; 7 x law 'mend 1' 0 = 5+@; law 'wind 99' 0 = FULL; law 'wind ?' 0 = -105; law 'wind 9' 600 = BAD");
        refused("of, why, rules", "of 4 0 = BAD; of 0 3 = BAD; why 4 = BAD; why -1 = BAD; rules 4 1 1 1 = BAD; rules -1 1 1 1 = BAD");
    }

    private static void months() {
        refused("months, shake, trust, gust, runs, night, judged, fast",
            "months 0 5 = BAD; months 61 5 = BAD; months 1 -1 = BAD; months 1 1000 = BAD; shake -1 = BAD; shake 100 = BAD",
            "trust 8 0 = BAD; trust 2 1000 = BAD; trust 0 5 = KIND; trust 5 5 = KIND; gust 60 5 = BAD; gust -1 5 = BAD",
            "gust 3 100 = BAD; gust 3 -1 = BAD; runs 60 5 = BAD; runs -1 5 = BAD; runs 4 0 = BAD; runs 4 21 = BAD",
            "runs NONE 0 = BAD; night 60 = BAD; night -1 = BAD; judged 6 = BAD; judged -1 = BAD; fast 1000 0 = BAD; fast 0 100 = BAD");
        refused("months: FULL", "9 x months 60 0; months 50 0 = 594; months 6 100 = FULL; months 60 999 = FULL; count 13 = 594");
    }

    private static void stories() {
        refused("story, find, doubt, flawed",
            "story 8 0 5 = BAD; story -1 0 5 = BAD; story 0 2 5 = BAD; story 0 -1 5 = BAD; story 0 0 64 = BAD; story 0 1 -1 = BAD",
            "find 8 0 = BAD; find 5 2 = BAD; find 5 -1 = BAD; find 0 1 = KIND; find 4 0 = KIND; doubt 8 = BAD; doubt 5 = KIND",
            "flawed 2 = BAD; flawed -1 = BAD");
    }

    private static void words() {
        refused("word, saw, knew, blind, must",
            "word -1 0 1 0 = BAD; word 10000 0 1 0 = BAD; word 1 8 1 0 = BAD; word 1 0 8 0 = BAD; word 1 3 3 0 = BAD",
            "word 1 0 1 10 = BAD; saw 8 0 1 = BAD; saw 0 10 1 = BAD; saw 0 0 -1 = BAD; saw 0 0 10000 = BAD; knew 8 0 1 = BAD",
            "knew 0 10 1 = BAD; knew 0 0 10000 = BAD; blind 10 = BAD; must 10 0 = BAD; must 0 10000 = BAD");
        refused("word: FULL", "26 x word 2*@ 4 5 3 = 4+@; word 0 0 7 0 = FULL; word 9999 7 0 9 = FULL; word 5 7 7 9 = BAD");
    }

    private static void papers() {
        refused("station, aboard, time, speed, races",
            "station 1000 1 1 = BAD; station 1 1000 1 = BAD; station 1 1 1000 = BAD; station -1 1 1 = BAD; aboard 2 = BAD",
            "time 1000 0 1000 1 = BAD; time 5 0 4 1 = BAD; time 0 5 1 5 = BAD; time 0 -1 1 5 = BAD; time 0 0 1 100000 = BAD",
            "speed 2 = BAD; speed -1 = BAD; races -1 = BAD");
        refused("station, time: FULL",
            "6 x station 7 8 9; station 1 1 1 = FULL; 14 x time 0 0 9 9; time 0 0 99 1 = FULL; station 1000 0 0 = BAD");
    }

    private static void tests() {
        refused("test, put, read",
            "test 6 0 1 = BAD; test -1 0 1 = BAD; test 0 2 1 = BAD; test 0 -2 1 = BAD; test 0 0 25 = BAD; test 1 1 25 = BAD",
            "test 0 1 -1 = SIZE; test 1 0 -1 = SIZE; test 3 0 -1 = SIZE; put 6 0 1 = BAD; put 3 0 1 = NOTHING; put 0 5 1 = INDEX",
            "put 0 -1 1 = INDEX; put 1 5 1 = INDEX; put 2 0 1 = INDEX; put 1 0 NONE = KIND; put 1 4 NONE = KIND",
            "put 0 1 100001 = BAD; put 0 2 -100001 = BAD; read 6 0 = BAD; read 3 0 = NOTHING; read 0 5 = INDEX; read 2 0 = INDEX");
    }

    private static void copies() {
        refused("copy",
            "copy 6 0 0 0 1 = BAD; copy 0 0 6 0 1 = BAD; copy 3 0 0 0 1 = NOTHING; copy 0 0 3 0 1 = NOTHING; copy 0 0 1 0 1 = KIND",
            "copy 1 0 0 0 1 = KIND; copy 0 1 0 0 5 = INDEX; copy 0 0 0 1 5 = INDEX; copy 0 1 0 0 -1 = INDEX; copy 1 4 1 0 2 = INDEX",
            "copy 1 0 1 4 2 = INDEX; copy 0 1 2 0 1 = INDEX; copy 2 0 0 0 1 = INDEX; copy 0 6 0 0 0 = INDEX; copy 0 0 0 6 0 = INDEX");
    }

    private static void straps() {
        refused("strap, straps",
            "strap 8 = BAD; strap -1 = BAD; strap 0 = KIND; strap 1 = KIND; strap 5 = KIND; strap 2 = NO; strap 3 = NO",
            "straps 9 0 = BAD; straps -1 0 = BAD; straps 0 2 = BAD; straps 0 -1 = BAD");
        refused("strap: FULL", "8 x part 3 0 50 1 0; 6 x strap 8+@ = 3+@; strap 14 = FULL; strap 15 = FULL; strap 2 = NO; strap 0 = KIND");
    }

    private static void checks() {
        refused("tell: FULL", "58 x tell 2 = 3+@; tell 9 = FULL; tell 0 = FULL");
        refused("check", "check 0 = BAD; tell 5; check 31 = BAD; check -1 = BAD; tell 1; check 1; check 30; count 11 = 0");
        refused("count", "count 16 = BAD; count -1 = BAD");
    }

    private static void asking() {
        refused("nor does one that only asks",
            "5 x has @ 2; 12 x told 3 @; as 3 2 = 700; 6 x pull @ 50; load 0 99; 8 x bears @; first 99; next 99 0; next 99 5; safe",
            "4 x of @ 2; 4 x why @; 4 x rules @ 1 2 3; trust 3 999; 6 x judged @; fast 9 9; fits; best; 5 x doubt @; flawed 1");
    }

    private static void asking2() {
        refused("nor does one that only asks",
            "8 x knew @ 0 9; 10 x blind @; 10 x must @ 9; 2 x aboard @; 2 x speed @; races 5; 5 x read 0 @; 5 x read 1 @",
            "9 x straps @ 0; 9 x straps @ 1; 16 x count @");
    }

    private static void noImage() {
        Script.holds("a refused call changes nothing: back, check without an IMAGE",
            "span 0 0 5; part 2 0 9 1 0; train 1; tell 1; tell 2; back = NO; check 1 = NO; back = NO; tell 3; check 31 = BAD; check 30 = NO");
    }
}
