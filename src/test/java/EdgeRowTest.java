/** The boundary cases of promises 49 to 59, sentence by sentence of the document. */
public final class EdgeRowTest {
    public static void main(String[] args) {
        tests();
        puts();
        putOrder();
        reads();
        middles();
        copies();
        copyPlaces();
        copyOrder();
        straps();
        strapSets();
        tells();
        checks();
        checkRefusals();
        keeps();
        backs();
        keptNot();
        counts();
        Due.end("EdgeRowTest");
    }

    private static void tests() {
        Script.holds("49: TESTS 0 .. 5",
            "test 0 0 1 = 1; test 5 1 2 = 2; test 6 0 1 = BAD; test -1 0 1 = BAD; test LOW 0 1 = BAD",
            "test HIGH 0 1 = BAD; read 0 0 = 0; read 5 1 = 0; read 4 0 = NOTHING");
        Script.holds("49: sorts -1, 0, 1",
            "test 0 0 1 = 1; test 0 2 1 = BAD; test 0 -2 1 = BAD; test 0 HIGH 1 = BAD; test 0 LOW 1 = BAD",
            "test 0 NONE 1 = BAD; read 0 0 = 0; test 0 1 1 = 1; test 0 -1 1 = 0; read 0 0 = NOTHING");
        Script.holds("49: 0 to 24 places",
            "test 0 0 0 = 0; read 0 0 = INDEX; test 0 0 24 = 24; read 0 23 = 0; read 0 24 = INDEX",
            "test 0 0 25 = BAD; test 0 1 25 = BAD; test 0 0 HIGH = BAD; read 0 23 = 0; test 0 1 24 = 24",
            "test 0 1 0 = 0; read 0 0 = INDEX");
        Script.holds("49: SIZE: below 0, behind BAD",
            "test 0 0 3 = 3; test 0 0 -1 = SIZE; test 0 1 -1 = SIZE; test 0 0 LOW = SIZE; test 0 1 NONE = SIZE",
            "test 6 0 -1 = BAD; test 0 2 -1 = BAD; test -1 1 LOW = BAD; read 0 2 = 0; read 0 3 = INDEX");
        Script.holds("49: sort -1: n any",
            "6 x test @ 0 2 = 2; test 0 -1 0 = 0; test 1 -1 -1 = 0; test 2 -1 25 = 0; test 3 -1 LOW = 0",
            "test 4 -1 HIGH = 0; test 5 -1 NONE = 0; 6 x read @ 0 = NOTHING; test 6 -1 0 = BAD; test -1 -1 0 = BAD");
        Script.holds("49: all 0, whatever stood there",
            "test 0 0 24; put 0 0 5; put 0 23 NONE; test 0 0 24 = 24; read 0 0 = 0; read 0 23 = 0; put 0 23 7",
            "test 0 0 3; test 0 0 24; read 0 23 = 0; put 0 23 7; test 0 -1 0; test 0 1 24; read 0 23 = 0",
            "put 0 23 -1; test 0 0 24; read 0 23 = 0; put 0 0 NONE; read 0 0 = 0");
        Script.holds("49: each TEST by itself",
            "6 x test @ 1 1+@ = 1+@; 6 x put @ @ 10+@ = 1; 6 x read @ @ = 10+@; 6 x read @ 1+@ = INDEX; test 3 -1 0",
            "read 2 2 = 12; read 4 4 = 14; read 3 3 = NOTHING");
    }

    private static void puts() {
        Script.holds("50: floats: -100000 .. 100000 quarters",
            "test 0 0 1; put 0 0 100000 = 1; read 0 0 = 100000; put 0 0 -100000 = 1; read 0 0 = -100000",
            "put 0 0 100001 = BAD; put 0 0 -100001 = BAD; put 0 0 HIGH = BAD; put 0 0 LOW = BAD; put 0 0 BAD = BAD",
            "put 0 0 NONE+1 = BAD; put 0 0 NONE-1 = BAD; read 0 0 = -100000; put 0 0 NONE = 1; read 0 0 = KIND",
            "put 0 0 0 = 1; read 0 0 = 0");
        Script.holds("50: shorts: the lowest 16 bits",
            "test 0 1 1; put 0 0 32767 = 1; read 0 0 = 32767; put 0 0 32768 = 1; read 0 0 = -32768",
            "put 0 0 -32768 = 1; read 0 0 = -32768; put 0 0 -32769 = 1; read 0 0 = 32767; put 0 0 65535 = 1",
            "read 0 0 = -1; put 0 0 65536 = 1; read 0 0 = 0; put 0 0 HIGH = 1; read 0 0 = -1; put 0 0 LOW = 1",
            "read 0 0 = 0; put 0 0 BAD = 1; read 0 0 = 13823; put 0 0 100001 = 1; read 0 0 = -31071");
        Script.holds("50: KIND: NONE in a row of shorts, and no other number",
            "test 0 1 1; put 0 0 7; put 0 0 NONE = KIND; read 0 0 = 7; put 0 0 NONE+1 = 1; put 0 0 NONE-1 = 1",
            "put 0 0 NO = 1; put 0 0 FULL = 1");
        Script.holds("50: the first and the last place",
            "test 0 1 24; put 0 0 1 = 1; put 0 23 2 = 1; put 0 24 3 = INDEX; put 0 -1 3 = INDEX",
            "put 0 LOW 3 = INDEX; put 0 HIGH 3 = INDEX; put 0 NONE 3 = INDEX; read 0 0 = 1; read 0 23 = 2",
            "read 0 1 = 0; read 0 22 = 0");
    }

    private static void putOrder() {
        Script.holds("50: BAD: test, ahead of all",
            "put 6 0 0 = BAD; put -1 0 0 = BAD; put 6 -1 NONE = BAD; put HIGH 0 0 = BAD; put LOW 0 0 = BAD");
        Script.holds("50: NOTHING ahead of INDEX, KIND, BAD",
            "put 0 0 0 = NOTHING; put 0 -1 NONE = NOTHING; put 5 24 HIGH = NOTHING; test 0 0 1; test 0 -1 0",
            "put 0 0 0 = NOTHING");
        Script.holds("50: INDEX ahead of KIND", "test 0 1 2; put 0 2 NONE = INDEX; put 0 -1 NONE = INDEX; put 0 1 NONE = KIND");
        Script.holds("50: INDEX ahead of BAD: v",
            "test 0 0 2; put 0 2 100001 = INDEX; put 0 -1 LOW = INDEX; put 0 1 100001 = BAD; put 0 2 NONE = INDEX");
        Script.holds("50: INDEX: a row of 0 places has none",
            "test 0 0 0; put 0 0 0 = INDEX; put 0 0 NONE = INDEX; test 1 1 0; put 1 0 0 = INDEX",
            "put 1 0 NONE = INDEX");
    }

    private static void reads() {
        Script.holds("51: BAD: test, NOTHING, INDEX, in this order",
            "read 6 0 = BAD; read -1 -1 = BAD; read LOW 0 = BAD; read HIGH 0 = BAD; read 0 0 = NOTHING",
            "read 5 -1 = NOTHING; test 0 0 24; read 0 23 = 0; read 0 24 = INDEX; read 0 -1 = INDEX",
            "read 0 HIGH = INDEX; read 0 LOW = INDEX; test 0 0 0; read 0 0 = INDEX");
        Script.holds("51: KIND: NO NUMBER, and no other is one",
            "test 0 0 1; put 0 0 NONE; read 0 0 = KIND; test 1 0 24; 24 x put 1 @ NONE; 24 x read 1 @ = KIND",
            "put 1 23 8; 24 x read 1 @ = 8; read 1 24 = INDEX");
    }

    private static void middles() {
        Script.holds("5: the middle is cut towards 0",
            "test 0 0 3; put 0 0 NONE; put 0 1 1; read 0 0 = 0; put 0 2 2; read 0 0 = 1; put 0 2 -1; put 0 1 0",
            "read 0 0 = 0; put 0 1 -2; read 0 0 = -1; put 0 1 -4; read 0 0 = -2");
        Script.holds("5: of all others that are numbers in its row",
            "test 0 0 4; test 1 0 4; put 1 0 1000; put 0 1 NONE; put 0 0 9; put 0 2 NONE; put 0 3 100",
            "read 0 1 = 54; read 0 2 = 54; read 0 0 = 9; put 0 1 0; read 0 2 = 36; put 0 2 NONE; read 0 2 = 36");
        Script.holds("5: 0 is a number", "test 0 0 5; put 0 0 NONE; put 0 4 10; read 0 0 = 2");
        Script.holds("5: the most of all",
            "test 0 0 24; 23 x put 0 1+@ 100000; put 0 0 NONE; read 0 0 = 100000; 23 x put 0 1+@ -100000",
            "read 0 0 = -100000; put 0 23 -99999; read 0 0 = -99999");
        Script.holds("5: places behind the row do not count",
            "test 0 0 24; 24 x put 0 @ 500; test 0 0 2; put 0 0 NONE; put 0 1 7; read 0 0 = 7");
    }

    private static void copies() {
        Script.holds("52: as they were: to the same one, on and back",
            "test 0 1 5; 5 x put 0 @ 1+@; copy 0 0 0 1 4 = 4; read 0 0 = 1; read 0 1 = 1; read 0 2 = 2",
            "read 0 3 = 3; read 0 4 = 4; copy 0 1 0 0 4 = 4; 4 x read 0 @ = 1+@; read 0 4 = 4; copy 0 2 0 2 3 = 3",
            "read 0 4 = 4");
        Script.holds("52: to another one",
            "test 0 1 24; test 5 1 24; 24 x put 0 @ 100+@; copy 0 0 5 0 24 = 24; 24 x read 5 @ = 100+@",
            "copy 0 23 5 0 1 = 1; read 5 0 = 123; read 5 1 = 101; copy 5 0 0 23 1 = 1; read 0 23 = 123",
            "read 0 22 = 122");
        Script.holds("52: NO NUMBER comes as NO NUMBER",
            "test 0 0 2; test 1 0 2; put 0 0 NONE; put 0 1 10; put 1 1 50; read 0 0 = 10; copy 0 0 1 0 1 = 1",
            "read 1 0 = 50; copy 0 0 1 1 1 = 1; read 1 0 = KIND");
        Script.holds("52: rows of several sizes",
            "test 0 1 3; test 1 1 24; put 0 2 9; copy 0 0 1 21 3 = 3; read 1 23 = 9; copy 0 0 1 22 3 = INDEX",
            "copy 1 23 0 0 1 = 1; read 0 0 = 9; copy 1 0 0 0 4 = INDEX; copy 1 0 0 0 3 = 3; read 0 0 = 0");
    }

    private static void copyPlaces() {
        Script.holds("52: INDEX: many below 0",
            "test 0 1 5; put 0 0 3; copy 0 0 0 0 -1 = INDEX; copy 0 5 0 5 -1 = INDEX; copy 0 1 0 1 LOW = INDEX",
            "copy 0 0 0 0 NONE = INDEX; read 0 0 = 3");
        Script.holds("52: INDEX: a place that there is not, from",
            "test 0 1 5; test 1 1 5; put 0 4 3; copy 0 -1 1 0 1 = INDEX; copy 0 5 1 0 1 = INDEX",
            "copy 0 4 1 0 2 = INDEX; copy 0 0 1 0 6 = INDEX; copy 0 4 1 0 1 = 1; read 1 0 = 3; copy 0 0 1 0 5 = 5");
        Script.holds("52: INDEX: a place that there is not, to",
            "test 0 1 5; test 1 1 5; put 0 0 3; copy 0 0 1 -1 1 = INDEX; copy 0 0 1 5 1 = INDEX",
            "copy 0 0 1 4 2 = INDEX; copy 0 0 1 4 1 = 1; read 1 4 = 3");
        Script.holds("52: many 0: not INDEX at the place behind the last one, INDEX further on",
            "test 0 1 5; test 1 1 2; copy 0 5 1 2 0 = 0; copy 0 0 1 0 0 = 0; copy 0 6 1 2 0 = INDEX",
            "copy 0 5 1 3 0 = INDEX; copy 0 -1 1 0 0 = INDEX; copy 0 0 1 -1 0 = INDEX");
        Script.holds("52: many 0 of rows of 0 places",
            "test 0 0 0; test 1 0 0; copy 0 0 1 0 0 = 0; copy 0 0 0 0 0 = 0; copy 0 0 1 0 1 = INDEX",
            "copy 0 1 1 0 0 = INDEX; copy 0 0 1 1 0 = INDEX");
        Script.holds("52: great numbers do not wrap",
            "test 0 1 5; copy 0 HIGH 0 0 HIGH = INDEX; copy 0 1 0 1 HIGH = INDEX; copy 0 HIGH 0 0 1 = INDEX",
            "copy 0 0 0 HIGH 1 = INDEX; copy 0 LOW 0 0 1 = INDEX; copy 0 0 0 LOW 0 = INDEX",
            "copy 0 LOW 0 LOW LOW = INDEX; copy 0 HIGH 0 HIGH 2 = INDEX");
    }

    private static void copyOrder() {
        Script.holds("52: BAD ahead of all",
            "test 0 0 1; copy 6 0 0 0 1 = BAD; copy -1 0 0 0 1 = BAD; copy 0 0 6 0 1 = BAD; copy 0 0 -1 0 1 = BAD",
            "copy 1 0 6 0 1 = BAD; copy 6 -1 1 -1 -1 = BAD; copy HIGH 0 LOW 0 0 = BAD");
        Script.holds("52: NOTHING ahead of KIND and INDEX",
            "test 0 0 1; copy 0 0 1 0 1 = NOTHING; copy 1 0 0 0 1 = NOTHING; copy 1 0 1 0 0 = NOTHING",
            "copy 0 -1 1 -1 -1 = NOTHING; test 1 1 1; copy 0 0 1 0 1 = KIND; copy 2 0 1 0 1 = NOTHING",
            "copy 1 9 2 9 9 = NOTHING");
        Script.holds("52: KIND ahead of INDEX, with many 0, too",
            "test 0 0 1; test 1 1 1; copy 0 9 1 9 9 = KIND; copy 1 0 0 0 -1 = KIND; copy 0 0 1 0 0 = KIND",
            "copy 0 1 1 1 0 = KIND");
    }

    private static void straps() {
        Script.holds("53: BAD: no such PART",
            "strap 0 = BAD; part 2 0 1 1 0; strap 1 = BAD; strap -1 = BAD; strap HIGH = BAD; strap LOW = BAD",
            "strap 0 = 1; count 10 = 1");
        Script.holds("53: KIND: no TIE, LUGS are",
            "4 x part @ 0 1 1 0; piece 0 0 0; strap 0 = KIND; strap 1 = KIND; strap 4 = KIND; strap 2 = 1",
            "strap 3 = 2; count 10 = 2");
        Script.holds("53: NO: it is one already, the first and the last one",
            "8 x part 2 0 1 1 0; strap 7 = 1; strap 7 = NO; strap 0 = 2; strap 0 = NO; strap 7 = NO; count 10 = 2");
        Script.holds("53: FULL: 8 are", "10 x part 3 0 1 1 0; 8 x strap @ = 1+@; strap 8 = FULL; strap 9 = FULL; count 10 = 8");
        Script.holds("53: BAD, KIND, NO ahead of FULL",
            "9 x part 2 0 1 1 0; part 1 0 1 1 0; piece 0 0 0; 8 x strap @; strap 11 = BAD; strap 9 = KIND",
            "strap 10 = KIND; strap 0 = NO; strap 7 = NO; strap 8 = FULL");
        Script.holds("53: one that is GONE may be strapped", "part 2 0 1 1 0; fall 99 = 1; strap 0 = 1; strap 0 = NO");
    }

    private static void strapSets() {
        Script.holds("54: k is 0 .. 8",
            "straps 0 0 = 99; straps 8 0 = 99; straps 9 0 = BAD; straps -1 0 = BAD; straps LOW 1 = BAD",
            "straps HIGH 1 = BAD");
        Script.holds("54: what is 0, 1",
            "straps 0 1 = 0; straps 0 2 = BAD; straps 0 -1 = BAD; straps 9 2 = BAD; straps 0 HIGH = BAD");
        Script.holds("54: k 0: none, SAFE as it is",
            "part 2 0 100 1 0; be 0 5 50; strap 0; straps 0 0 = 15; straps 0 1 = 0; safe = 15; straps 1 0 = 20",
            "straps 1 1 = 1; safe = 15; told 0 5 = 50");
        Script.holds("54: k above how many there are",
            "part 2 0 100 1 0; be 0 5 50; strap 0; straps 8 0 = 20; straps 8 1 = 1; straps 2 1 = 1");
        Script.holds("54: SAFE the greatest: k at most",
            "8 x part 2 0 80 1 0; 8 x be @ 5 20+@; 8 x strap @; straps 8 1 = 255; straps 8 0 = 74; straps 7 1 = 254",
            "straps 7 0 = 61; straps 1 1 = 128; straps 1 0 = 57");
        Script.holds("54: of several with the fewest",
            "part 2 0 100 1 0; part 2 4 50 1 0; be 0 5 10; strap 0; strap 1; straps 8 1 = 0; straps 8 0 = 15",
            "be 1 5 10; straps 8 1 = 2; straps 8 0 = 15; straps 1 1 = 2");
        Script.holds("54: none that helps not, though k lets more",
            "span 0 0 0; part 2 0 100 1 0; part 2 0 100 1 0; part 1 0 30 1 0; be 0 5 75; be 1 5 75; strap 1",
            "strap 0; straps 8 0 = 9; straps 8 1 = 3; straps 1 0 = 7; straps 1 1 = 0; be 1 5 70; straps 8 0 = 9",
            "straps 8 1 = 2; straps 1 1 = 2");
        Script.holds("54: a set of one: bit by the order in which they were told",
            "part 3 0 100 1 0; part 3 4 100 1 0; be 0 5 50; strap 1; strap 0; straps 1 1 = 2; straps 1 0 = 20",
            "be 0 5 0; be 1 5 50; straps 1 1 = 1");
        Script.holds("54: SLACK 0, by a hair",
            "span 0 0 0; span 0 1 2; part 2 0 197 1 0; safe = 98; be 0 5 50; strap 0; straps 0 0 = 49; straps 1 0 = 98; straps 1 1 = 1");
        Script.holds("54: a FLAW stays: a LUG with SLACK 0",
            "part 3 0 100 1 0; be 0 4 50; be 0 5 50; strap 0; straps 0 0 = 12; straps 1 0 = 15; straps 1 1 = 1");
        Script.holds("54: what is GONE needs no strap",
            "part 2 0 1 1 0; be 0 5 99; strap 0; fall 99 = 1; straps 1 1 = 0; straps 1 0 = 99; raise",
            "straps 1 1 = 0; straps 1 0 = 10; be 0 5 0; straps 8 1 = 0");
        Script.holds("54: of none", "part 2 0 1 1 0; be 0 5 99; straps 8 1 = 0; straps 8 0 = 10");
    }

    private static void tells() {
        Script.holds("55: 60 wait at most; any numbers",
            "58 x tell @ = 1+@; tell HIGH = 59; tell LOW = 60; tell 0 = FULL; tell NONE = FULL; count 11 = 60");
        Script.holds("55: behind a check none waits",
            "60 x tell 0; check 1 = NO; count 11 = 0; tell 0 = 1; keep; check 31 = BAD; tell 0 = 1; check 1 = 2",
            "tell 0 = 1");
    }

    private static void checks() {
        Script.holds("56: how many stand ahead of the first that is not, and 1",
            "keep; tell 0; tell 0; check 1 = 0; tell 1; tell 0; check 1 = 1; tell 0; tell 1; check 1 = 2",
            "3 x tell 0; tell 1; check 2 = 4; 2 x tell 0; tell -1; tell 9; check 2 = 3");
        Script.holds("56: or is missing",
            "keep; check 1 = 1; tell 0; check 1 = 2; 59 x tell 0; check 30 = 60; 58 x tell 0; check 30 = 59",
            "check 30 = 1");
        Script.holds("56: or one too many",
            "keep; 3 x tell 0; check 1 = 3; 60 x tell 0; check 29 = 59; 60 x tell 0; check 1 = 3; 60 x tell 0",
            "check 30 = 0");
        Script.holds("56: behind each SECOND, GONE, then DOWN",
            "part 0 1 1 1 0; part 0 4 1 1 0; gust 0 15; gust 2 99; keep; 2 x tell 2; tell 2; tell 3; check 1 = 2",
            "tell 2; tell 3; check 1 = 0");
        Script.holds("56: of 30 SECONDS, the last one",
            "part 0 1 1 1 0; gust 29 99; gust 30 99; keep; 58 x tell 0; tell 1; tell 2; check 30 = 0; 58 x tell 0",
            "tell 1; tell 1; check 30 = 60");
        Script.holds("56: of 30 SECONDS, the last one is not as it was",
            "part 0 1 1 1 0; gust 29 99; keep; 60 x tell 0; check 30 = 59; 58 x tell 0; check 29 = 0");
        Script.holds("56: THE NIGHT from THE IMAGE on, not from what is now",
            "part 0 1 1 1 0; gust 0 99; keep; gust 0 0; tell 1; tell 2; check 1 = 0; fall 99 = 1; tell 1; tell 2",
            "check 1 = 0; count 3 = 1; raise; keep; tell 1; tell 2; check 1 = 1; 2 x tell 0; check 1 = 0");
        Script.holds("56: nothing goes by it",
            "part 0 1 1 1 0; gust 0 99; train 2; keep; tell 1; tell 2; check 1 = 0; count 3 = 0; count 1 = 0",
            "count 14 = 2; back; count 3 = 0; count 14 = 2");
        Script.holds("56: of THE IMAGE what was GONE and DOWN ahead",
            "part 0 1 1 1 0; fall 99 = 1; keep; raise; tell 1; tell 2; check 1 = 0; 2 x tell 0; check 1 = 1");
        Script.holds("56: as THE NIGHT begins THE TRAIN of THE IMAGE is on none",
            "part 0 0 100 1 0; span -1 1 99; gust 0 3; train 0; keep; first 3 = 0; 2 x tell 0; check 1 = 0",
            "2 x tell 1; check 1 = 1; count 14 = 0");
        Script.holds("56: as THE NIGHT begins THE TRAIN of THE IMAGE is up",
            "part 0 4 1 1 0; part 0 0 100 1 0; span -1 1 99; train 3; fall 15 = 1; count 15 = 1; runs 0 20",
            "gust 0 3; keep; tell 2; tell 2; check 1 = 0; count 15 = 1");
        Script.holds("56: by KIND, FLAW and SLACK of THE IMAGE",
            "part 1 0 100 1 0; part 2 4 100 1 0; be 0 4 50; be 1 5 40; gust 0 15; gust 1 16; gust 2 17; keep",
            "be 0 4 0; be 1 5 0; 2 x tell 0; 2 x tell 1; 2 x tell 2; check 3 = 0");
        Script.holds("56: THE TRAIN of THE IMAGE comes",
            "part 0 0 100 1 0; span -1 1 99; runs 1 20; gust 0 3; gust 1 3; keep; runs NONE 1; span -1 1 0",
            "2 x tell 0; 2 x tell 1; check 2 = 0");
    }

    private static void checkRefusals() {
        Script.holds("56: n is 1 .. 30",
            "keep; tell 7; check 0 = BAD; count 11 = 0; tell 7; check 31 = BAD; count 11 = 0; tell 7",
            "check -1 = BAD; check LOW = BAD; check HIGH = BAD; 60 x tell 0; check 30 = 0; 2 x tell 0; check 1 = 0");
        Script.holds("56: NO: there is no IMAGE, behind BAD",
            "tell 0; tell 0; check 1 = NO; count 11 = 0; tell 0; check 0 = BAD; count 11 = 0; tell 0",
            "check 31 = BAD; check 30 = NO");
    }

    private static void keeps() {
        Script.holds("57: the MONTH, the first and the last one",
            "keep = 0; 9 x months 60 0; months 59 0; keep = 599; back = 599; count 13 = 599");
        Script.holds("57: a later IMAGE takes the place of the first",
            "span 0 0 1; keep = 0; span 0 0 2; months 1 0; keep = 1; span 0 0 3; back = 1; has 0 0 = 2",
            "count 13 = 1; span 0 0 3; back = 1; has 0 0 = 2");
        Script.holds("57: what comes behind it does not change it",
            "part 2 0 1 1 0; law 'wind 5' 0; saw 0 0 5; word 1 0 1 0; keep = 0; be 0 5 9; law 'wind 6' 0; saw 0 0 1",
            "word 1 1 2 0; fall 99; back = 0; told 0 5 = 0; rules 0 0 0 0 = 5; knew 0 0 4 = 0; count 7 = 1",
            "told 0 8 = 1");
    }

    private static void backs() {
        Script.holds("58: NO: there is none",
            "back = NO; part 0 0 1 1 0; back = NO; count 2 = 1; keep = 0; back = 0; count 2 = 1");
        Script.holds("58: again and again",
            "keep; 3 x part 0 0 1 1 0; back = 0; count 2 = 0; 3 x part 0 0 1 1 0; back = 0; count 2 = 0; back = 0",
            "count 2 = 0");
        Script.holds("58: MONTH, SHAKE and what is in force",
            "law 'wind 5' 1; shake 7; keep; months 60 0; shake 9; why 0 = 0; back = 0; why 0 = NONE; shake 5 = 7",
            "count 13 = 0; months 1 0 = 1");
        Script.holds("58: fewer SPANS, more SPANS",
            "spans 2; span 1 0 3; keep; spans 12; span 1 0 4; back = 0; count 0 = 2; has 1 0 = 3; has 2 0 = BAD",
            "part 0 3 1 1 0 = BAD; part 0 2 1 1 0 = 0; spans 3 = NO; back = 0; spans 3 = 2");
        Script.holds("58: GONE, DOWN and THE TRAIN",
            "part 0 0 1 1 0; span 0 1 99; train 0; fall 99 = 1; keep; raise = 1; train 3; back = 0; told 0 8 = 0",
            "has 0 2 = 1; count 15 = 1; count 14 = NONE; train NONE; back; count 15 = 1");
        Script.holds("58: THE TRAIN on its SPAN, its WEIGHT and SAIL",
            "span -1 0 3; span -1 1 4; train 2; keep; span -1 0 5; span -1 1 6; train NONE; back; count 14 = 2",
            "has 2 3 = 1; span -1 0 0 = 3; span -1 1 0 = 4");
        Script.holds("58: TEXTS, WORDS, STATIONS, TIMES, straps that were FULL",
            "12 x law 'mend 1' 0; 30 x word 0 0 1 0; keep; 8 x station 1 1 1; 16 x time 0 0 1 1; 8 x part 2 0 1 1 0",
            "8 x strap @; station 0 0 0 = FULL; time 0 0 0 1 = FULL; back = 0; station 5 0 0 = 0; time 0 0 0 1 = 0",
            "speed 0 = 0; aboard 1 = 5; count 10 = 0; law 'wind 1' 0 = FULL; word 0 0 1 0 = FULL",
            "part 2 0 1 1 0 = 0; strap 0 = 1");
        Script.holds("58: FLAW and SLACK of PARTS",
            "4 x part @ 0 9 1 0; 4 x be @ 4 10+@; 4 x be @ 5 20+@; keep; 4 x be @ 4 1; 4 x be @ 5 2; back",
            "4 x told @ 4 = 10+@; 4 x told @ 5 = 20+@");
        Script.holds("58: what each STORY lets on either SIDE",
            "8 x story @ 0 10+@; 8 x story @ 1 20+@; keep; 8 x story @ 0 1; 8 x story @ 1 2; back",
            "8 x story @ 0 0 = 10+@; 8 x story @ 1 0 = 20+@");
        Script.holds("58: WORDS by DAYS, though earlier ones came behind THE IMAGE",
            "saw 0 0 0; word 5 0 1 0; keep; saw 2 1 0; word 4 2 3 1; knew 3 1 4 = 1; back; knew 1 0 4 = 0",
            "knew 1 0 5 = 1; knew 3 1 9999 = 0; blind 0 = 0; blind 1 = 0; count 7 = 1; word 4 1 4 0 = 1",
            "blind 0 = 1; word 6 1 4 0 = 2; knew 4 0 6 = 1; knew 4 0 5 = 0");
        Script.holds("58: SAW: DAYS that came behind THE IMAGE",
            "saw 0 0 50; saw 7 9 60; keep; saw 0 0 5; saw 7 9 6; saw 3 3 3; back; saw 0 0 9999 = 50",
            "saw 7 9 9999 = 60; knew 3 3 9999 = 0");
        Script.holds("58: a PART where a FOUND PIECE was",
            "keep; piece 0 5 1; find 0 1; back; part 2 0 1 1 0 = 0; 3 x told 0 9+@ = 0; told 0 8 = 1; fits = 255",
            "count 4 = 0; count 5 = 0");
        Script.holds("58: a PIECE where a PART with FLAW and SLACK was",
            "keep; part 3 1 9 9 5; be 0 4 8; be 0 5 7; back; piece 0 1 0 = 0; told 0 4 = 0; told 0 5 = 0",
            "told 0 6 = 0; told 0 8 = 0; told 0 2 = 1; told 0 3 = 1; flawed 0 = 0");
        Script.holds("58: a PART where another one with FLAW and SLACK went",
            "keep; part 3 0 1 9 5; be 0 4 8; be 0 5 7; fall 99 = 1; back; part 3 0 1 1 0 = 0; told 0 4 = 0",
            "told 0 5 = 0; told 0 8 = 1; doubt 0 = 0");
        Script.holds("58: GUSTS, SECOND and SPEED, STORIES, FOUND ones",
            "gust 59 7; runs 5 20; story 7 1 9; piece 0 0 1; find 0 1; keep; gust 59 8; runs NONE 1; story 7 1 10",
            "find 0 0; back; gust 59 0 = 7; story 7 1 0 = 9; told 0 11 = 1; night 6; count 14 = 1");
    }

    private static void keptNot() {
        Script.holds("5: AN IMAGE keeps no TESTS",
            "test 0 1 1; put 0 0 5; keep; put 0 0 6; test 1 0 2; back; read 0 0 = 6; read 1 1 = 0; test 0 -1 0",
            "back; read 0 0 = NOTHING");
        Script.holds("5: AN IMAGE keeps no numbers that wait",
            "2 x tell 0; keep; tell 0; back; count 11 = 3; check 1 = 3; back; count 11 = 0");
        Script.holds("5: AN IMAGE keeps no TAPE",
            "type 'wind 7'; keep; trim 4; back; count 12 = 4; trim 0; back; count 12 = 0; type 'wind 8'; back",
            "text 0 = 0; rules 0 0 0 0 = 8");
    }

    private static void counts() {
        Script.holds("59: what is 0 .. 15",
            "count 0 = 4; count 15 = 0; count 16 = BAD; count -1 = BAD; count HIGH = BAD; count LOW = BAD",
            "count NONE = BAD");
        Script.holds("59: all SPANS, all DOWN",
            "spans 12; count 0 = 12; 12 x part 0 @+1 1 1 0; fall 99; count 1 = 12; raise; count 1 = 0");
        Script.holds("59: 2 all PARTS, 3 of these GONE, 4 PIECES, 5 FOUND ones",
            "39 x piece 0 0 0; part 0 0 1 1 0; 39 x find @ 1; fall 99 = 1; count 2 = 40; count 3 = 1; count 4 = 39",
            "count 5 = 39; find 38 0; count 5 = 38; raise; count 3 = 0");
        Script.holds("59: 14 the SPAN on which THE TRAIN is",
            "spans 12; count 14 = NONE; train 0; count 14 = 0; train 11; count 14 = 11; count 15 = 0");
    }
}
