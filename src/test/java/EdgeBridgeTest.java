/** The boundary cases of promises 1 to 18, sentence by sentence of the document. */
public final class EdgeBridgeTest {
    public static void main(String[] args) {
        atFirst();
        spans();
        piers();
        spanNumbers();
        trains();
        partNumbers();
        pieces();
        full();
        told();
        kinds();
        flawsAndSlack();
        bears();
        pulls();
        loads();
        over();
        firsts();
        falls();
        fallenTrain();
        staysSo();
        raises();
        nexts();
        safes();
        calls512();
        Due.end("EdgeBridgeTest");
    }

    private static void atFirst() {
        Script.holds("1: COUNT 4 at first, no PARTS, no TEXTS, no WORDS, MONTH 0, THE TRAIN on none and up",
            "count 0 = 4; 13 x count 1+@ = 0; count 14 = NONE; count 15 = 0; count 16 = BAD; count -1 = BAD");
        Script.holds("1: a SPAN has 10 each at first, and is up; THE TRAIN has 0 each",
            "4 x has @ 0 = 10; 4 x has @ 1 = 10; 4 x has @ 2 = 0; 4 x has @ 3 = 0; span -1 0 0 = 0; span -1 1 0 = 0");
        Script.holds("1: SHAKE is 5, all GUSTS 0, all sets 63, all TESTS MISSING, no IMAGE",
            "shake 5 = 5; 60 x gust @ 0 = 0; 8 x story @ 0 63 = 63; 8 x story @ 1 63 = 63; 6 x read @ 0 = NOTHING",
            "back = NO; tell 1 = 1; check 1 = NO");
        Script.holds("1: of no PARTS none may be asked for",
            "told 0 0 = BAD; as 0 0 = BAD; be 0 4 0 = BAD; load 0 0 = BAD; bears 0 = BAD; trust 0 0 = BAD",
            "find 0 0 = BAD; doubt 0 = BAD; strap 0 = BAD; of 0 0 = BAD; speed 0 = BAD");
        Script.holds("1: of none the sums are 0, and nothing is first, next, best",
            "raise = 0; first 99 = NONE; fall 99 = 0; next 99 0 = NONE; safe = 99; best = NONE; fits = 255",
            "flawed 0 = 0; flawed 1 = 0; aboard 0 = 0; aboard 1 = 0; races 0 = 0; blind 0 = 0; must 0 9999 = 0",
            "straps 8 0 = 99; straps 8 1 = 0");
    }

    private static void spans() {
        Script.holds("2: COUNT is 2 .. 12",
            "spans 2 = 4; spans 12 = 2; spans 1 = BAD; spans 13 = BAD; spans 0 = BAD; spans -2 = BAD",
            "spans LOW = BAD; spans HIGH = BAD; spans NONE = BAD; count 0 = 12; spans 3 = 12; spans 3 = 3");
        Script.holds("2: NO: there are PARTS, be it one, be it a PIECE",
            "part 0 0 1 1 0; spans 4 = NO; spans 12 = NO; count 0 = 4");
        Script.holds("2: NO: a PIECE is a PART", "piece 0 0 0; spans 2 = NO; count 0 = 4");
        Script.holds("2: BAD stands first", "part 0 0 1 1 0; spans 1 = BAD; spans 13 = BAD; spans 2 = NO");
        Script.holds("2: SPANS as at first, those that stay, too",
            "span 0 0 1; span 0 1 2; span 3 0 3; span 3 1 4; spans 4 = 4; 4 x has @ 0 = 10; 4 x has @ 1 = 10");
        Script.holds("2: SPANS as at first, those that were cut off, too",
            "spans 12; span 11 0 1; span 11 1 2; spans 2 = 12; spans 12 = 2; 12 x has @ 0 = 10; 12 x has @ 1 = 10");
        Script.holds("2: THE TRAIN is on none, even if its SPAN stays", "train 0; spans 4 = 4; count 14 = NONE; has 0 3 = 0");
        Script.holds("2: a refused call leaves THE TRAIN where it is",
            "train 2; spans 13 = BAD; count 14 = 2; part 0 0 1 1 0; spans 4 = NO; count 14 = 2; has 2 3 = 1");
        Script.holds("2: THE TRAIN keeps its WEIGHT and SAIL",
            "span -1 0 98; span -1 1 97; spans 2 = 4; span -1 0 0 = 98; span -1 1 0 = 97");
        Script.holds("2: THE TRAIN up again: an image without PARTS holds none that fell",
            "keep; part 0 0 1 1 0; train 0; span 0 1 99; fall 99 = 1; count 15 = 1; back = 0; spans 5 = 4",
            "count 15 = 0; count 1 = 0");
    }

    private static void piers() {
        Script.holds("1: PIERS 0 .. COUNT, of the fewest SPANS",
            "spans 2; part 0 0 1 1 0 = 0; part 0 2 1 1 0 = 1; part 0 3 1 1 0 = BAD; part 0 -1 1 1 0 = BAD",
            "piece 2 0 0 = 2; piece 3 0 0 = BAD; piece -1 0 0 = BAD; pull 2 0 = 0; pull 3 0 = BAD; pull -1 0 = BAD",
            "judged 2 = 0; judged 3 = BAD; judged -1 = BAD");
        Script.holds("1: PIERS 0 .. COUNT, of the most SPANS",
            "spans 12; part 0 12 1 1 0 = 0; part 0 13 1 1 0 = BAD; piece 12 0 0 = 1; piece 13 0 0 = BAD",
            "pull 12 11 = 10; pull 13 0 = BAD; judged 12 = 0; judged 13 = BAD");
        Script.holds("1: SPANS 0 .. COUNT - 1",
            "spans 12; has 11 0 = 10; has 12 0 = BAD; span 11 0 1 = 10; span 12 0 1 = BAD; train 11 = NONE",
            "train 12 = BAD; spans 2 = 12; has 1 0 = 10; has 2 0 = BAD; span 1 0 1 = 10; span 2 0 1 = BAD",
            "train 1 = NONE; train 2 = BAD");
        Script.holds("1: PIER 0 has SPAN 0 alone, the last one the last SPAN alone",
            "spans 2; span 0 0 1; span 0 1 2; span 1 0 3; span 1 1 5; pull 0 50 = 90; pull 1 50 = 310",
            "pull 2 50 = 220");
    }

    private static void spanNumbers() {
        Script.holds("3: a WEIGHT is 0 .. 99",
            "span 0 0 0 = 10; span 0 0 99 = 0; span 0 0 100 = BAD; span 0 0 -1 = BAD; span 0 0 LOW = BAD",
            "span 0 0 HIGH = BAD; has 0 0 = 99");
        Script.holds("3: a SAIL is 0 .. 99",
            "span 3 1 0 = 10; span 3 1 99 = 0; span 3 1 100 = BAD; span 3 1 -1 = BAD; span 3 1 NONE = BAD",
            "has 3 1 = 99");
        Script.holds("3: THE TRAIN (-1) has the same bounds",
            "span -1 0 99 = 0; span -1 0 100 = BAD; span -1 0 -1 = BAD; span -1 1 99 = 0; span -1 1 100 = BAD",
            "span -1 1 -1 = BAD; span -1 0 0 = 99; span -1 1 0 = 99");
        Script.holds("3: BAD: no such SPAN, no such what",
            "span 4 0 1 = BAD; span -2 0 1 = BAD; span NONE 0 1 = BAD; span HIGH 0 1 = BAD; span LOW 0 1 = BAD",
            "span 0 2 1 = BAD; span 0 -1 1 = BAD; span -1 2 1 = BAD; span -1 -1 1 = BAD");
        Script.holds("3: a SPAN that is DOWN, or has THE TRAIN, may be changed",
            "part 0 0 1 1 0; span 0 1 99; fall 99 = 1; has 0 2 = 1; span 0 0 5 = 10; span 0 1 6 = 99; has 0 0 = 5",
            "has 0 1 = 6; has 0 2 = 1; train 1; span 1 0 7 = 10; has 1 3 = 1");
        Script.holds("4: what is 0 .. 3", "has 0 3 = 0; has 0 4 = BAD; has 0 -1 = BAD; has 0 LOW = BAD; has 0 HIGH = BAD");
        Script.holds("4: of a SPAN, which THE TRAIN is not",
            "has 3 0 = 10; has 4 0 = BAD; has -1 0 = BAD; has -1 3 = BAD; has NONE 3 = BAD; has HIGH 2 = BAD",
            "has LOW 2 = BAD");
        Script.holds("4: whether THE TRAIN is on it, the first and the last one",
            "train 0; has 0 3 = 1; has 3 3 = 0; train 3; has 3 3 = 1; has 0 3 = 0; train NONE; has 3 3 = 0");
    }

    private static void trains() {
        Script.holds("5: onto the first and the last SPAN, and none",
            "train 0 = NONE; train 3 = 0; train 3 = 3; train NONE = 3; train NONE = NONE");
        Script.holds("5: BAD: no such SPAN",
            "train 1; train 4 = BAD; train -1 = BAD; train HIGH = BAD; train LOW = BAD; train BAD = BAD",
            "count 14 = 1");
        Script.holds("5: NO: that SPAN is DOWN, and THE TRAIN stays where it is",
            "part 0 0 1 1 0; span 0 1 99; fall 99 = 1; train 2 = NONE; train 0 = NO; count 14 = 2; train NONE = 2",
            "train 0 = NO; count 14 = NONE");
        Script.holds("5: where it was: NONE if it was DOWN; none: up again",
            "part 0 0 1 1 0; span 0 1 99; train 0; fall 99 = 1; count 15 = 1; count 14 = NONE; train 0 = NO",
            "count 15 = 1; train 4 = BAD; count 15 = 1; train NONE = NONE; count 15 = 0; count 14 = NONE");
        Script.holds("5: from DOWN onto a SPAN that is up",
            "part 0 0 1 1 0; span 0 1 99; train 0; fall 99 = 1; train 1 = NONE; count 15 = 0; count 14 = 1",
            "raise = 1; train 0 = NONE");
    }

    private static void partNumbers() {
        Script.holds("6: KIND 0 .. 3",
            "part -1 0 1 1 0 = BAD; part 4 0 1 1 0 = BAD; part 5 0 1 1 0 = BAD; 4 x part @ 0 1 1 0 = @",
            "4 x told @ 0 = @");
        Script.holds("6: STRENGTH 1 .. 999",
            "part 0 0 0 1 0 = BAD; part 0 0 1000 1 0 = BAD; part 0 0 -1 1 0 = BAD; part 0 0 LOW 1 0 = BAD",
            "part 0 0 HIGH 1 0 = BAD; part 0 0 1 1 0 = 0; part 0 0 999 1 0 = 1; told 0 2 = 1; told 1 2 = 999");
        Script.holds("6: SHARE 1 .. 9",
            "part 0 0 1 0 0 = BAD; part 0 0 1 10 0 = BAD; part 0 0 1 -1 0 = BAD; part 0 0 1 HIGH 0 = BAD",
            "part 0 0 1 1 0 = 0; part 0 0 1 9 0 = 1; told 0 3 = 1; told 1 3 = 9");
        Script.holds("6: HAND 0 .. 5",
            "part 0 0 1 1 -1 = BAD; part 0 0 1 1 6 = BAD; part 0 0 1 1 NONE = BAD; part 0 0 1 1 0 = 0",
            "part 0 0 1 1 5 = 1; told 0 6 = 0; told 1 6 = 5");
        Script.holds("6: FLAW and SLACK 0 at first, CAST in this MONTH, the first and the last one",
            "part 3 0 7 1 0 = 0; told 0 7 = 0; told 0 4 = 0; told 0 5 = 0; told 0 8 = 1; 9 x months 60 0",
            "months 59 0 = 599; part 3 0 7 1 0 = 1; told 1 7 = 599; told 0 7 = 0");
        Script.holds("6: each BAD one by itself, at a PIER that there is",
            "part 0 4 1 1 0 = 0; part 0 5 1 1 0 = BAD; part 0 -1 1 1 0 = BAD; part 0 LOW 1 1 0 = BAD",
            "part 0 HIGH 1 1 0 = BAD; count 2 = 1");
    }

    private static void pieces() {
        Script.holds("7: BREAK 0 .. 5",
            "piece 0 -1 0 = BAD; piece 0 6 0 = BAD; piece 0 LOW 0 = BAD; piece 0 0 0 = 0; piece 0 5 0 = 1",
            "told 0 9 = 0; told 1 9 = 5");
        Script.holds("7: SIDE 0, 1",
            "piece 0 0 -1 = BAD; piece 0 0 2 = BAD; piece 0 0 HIGH = BAD; piece 0 0 0 = 0; piece 0 0 1 = 1",
            "told 0 10 = 0; told 1 10 = 1");
        Script.holds("7: PIER 0 .. COUNT",
            "piece -1 0 0 = BAD; piece 5 0 0 = BAD; piece 0 0 0 = 0; piece 4 0 0 = 1; told 0 1 = 0; told 1 1 = 4");
        Script.holds("7: STRENGTH, SHARE 1, HAND 0, not FOUND, in this MONTH",
            "months 60 0; piece 3 4 1 = 0; told 0 0 = 4; told 0 1 = 3; told 0 2 = 1; told 0 3 = 1; told 0 4 = 0",
            "told 0 5 = 0; told 0 6 = 0; told 0 7 = 60; told 0 8 = 0; told 0 9 = 4; told 0 10 = 1; told 0 11 = 0");
        Script.holds("1: PIECES never stand: not GONE, no LOAD, no SHARE, not raised",
            "piece 0 0 0 = 0; part 0 0 1 1 0 = 1; count 3 = 0; load 0 50 = NO; load 1 50 = 400; raise = 0",
            "told 0 8 = 0; fall 99 = 1; count 3 = 1; raise = 1; told 0 8 = 0; told 1 8 = 1");
    }

    private static void full() {
        Script.holds("1: PARTS, 40 at most, numbered from 0",
            "39 x part 0 0 1 1 0 = @; part 1 1 2 3 4 = 39; part 0 0 1 1 0 = FULL; piece 0 0 0 = FULL; count 2 = 40",
            "told 39 0 = 1; told 39 6 = 4; told 40 0 = BAD");
        Script.holds("1: PIECES count among the 40",
            "39 x piece 0 0 0 = @; part 1 1 2 3 4 = 39; piece 0 0 0 = FULL; part 0 0 1 1 0 = FULL; count 4 = 39",
            "count 2 = 40");
        Script.holds("6, 7: BAD stands ahead of FULL",
            "20 x part 0 0 1 1 0; 20 x piece 0 0 0; part 4 0 1 1 0 = BAD; part 0 5 1 1 0 = BAD",
            "part 0 0 0 1 0 = BAD; part 0 0 1 10 0 = BAD; part 0 0 1 1 6 = BAD; piece 5 0 0 = BAD",
            "piece 0 6 0 = BAD; piece 0 0 2 = BAD; piece 0 0 0 = FULL");
        Script.holds("6: what is GONE counts, too",
            "40 x part 0 0 1 1 0 = @; fall 99 = 40; part 0 0 1 1 0 = FULL; count 3 = 40");
        Script.holds("6: FULL no more as THE IMAGE had fewer",
            "keep; 40 x part 0 0 1 1 0; part 0 0 1 1 0 = FULL; back = 0; part 0 0 1 1 0 = 0");
    }

    private static void told() {
        Script.holds("8: what is 0 .. 11",
            "part 1 2 3 4 5; told 0 11 = 0; told 0 12 = BAD; told 0 -1 = BAD; told 0 HIGH = BAD; told 0 LOW = BAD",
            "told 0 0 = 1");
        Script.holds("8: BAD: no such PART",
            "part 1 2 3 4 5; told 1 0 = BAD; told -1 0 = BAD; told HIGH 0 = BAD; told LOW 0 = BAD",
            "told NONE 0 = BAD; told 0 2 = 3");
        Script.holds("8: BREAK, SIDE, FOUND of others than PIECES are 0",
            "piece 0 5 1; find 0 1; part 3 0 1 1 0; 3 x told 1 9+@ = 0; told 0 9 = 5; told 0 10 = 1; told 0 11 = 1");
    }

    private static void kinds() {
        Script.holds("9: a LUG is a TIE, a TIE no LUG; all are PARTS; a PIECE is under PART alone",
            "4 x part @ 0 @+5 1 0; piece 0 0 0; 4 x as @ 0 = @+5; as 4 0 = 1; as 3 2 = 8; as 2 3 = KIND; as 2 2 = 7",
            "as 3 3 = 8; as 1 1 = 6; as 1 2 = KIND; as 2 1 = KIND; as 3 1 = KIND; as 0 1 = KIND; as 0 2 = KIND",
            "as 0 3 = KIND; as 0 4 = KIND; as 4 4 = 1; as 4 1 = KIND; as 4 2 = KIND; as 4 3 = KIND; as 3 4 = KIND");
        Script.holds("9: BAD: part, kind",
            "part 0 0 5 1 0; as 0 4 = KIND; as 0 5 = BAD; as 0 -1 = BAD; as 1 0 = BAD; as -1 0 = BAD",
            "as 0 HIGH = BAD; as LOW 0 = BAD");
        Script.holds("9: one that is GONE is of its KIND, too", "part 3 0 5 1 0; fall 99 = 1; as 0 2 = 5");
    }

    private static void flawsAndSlack() {
        Script.holds("10: a FLAW is 0 .. 99",
            "part 0 0 1 1 0; be 0 4 99 = 0; be 0 4 100 = BAD; be 0 4 -1 = BAD; told 0 4 = 99; be 0 4 0 = 99",
            "told 0 5 = 0");
        Script.holds("10: a SLACK is 0 .. 99",
            "part 1 0 1 1 0; be 0 5 99 = 0; be 0 5 100 = BAD; be 0 5 -1 = BAD; told 0 5 = 99; be 0 5 0 = 99",
            "told 0 4 = 0");
        Script.holds("10: what is 4, 5",
            "part 2 0 1 1 0; be 0 3 1 = BAD; be 0 6 1 = BAD; be 0 0 1 = BAD; be 0 -1 1 = BAD; be 0 HIGH 1 = BAD",
            "told 0 3 = 1; told 0 6 = 0");
        Script.holds("10: BAD: no such PART",
            "part 2 0 1 1 0; be 1 4 1 = BAD; be -1 4 1 = BAD; be LOW 5 1 = BAD; be HIGH 5 1 = BAD");
        Script.holds("10: KIND: a PIECE, behind BAD",
            "piece 0 0 0; be 0 4 1 = KIND; be 0 5 0 = KIND; be 0 4 100 = BAD; be 0 6 1 = BAD; be 0 5 -1 = BAD",
            "told 0 4 = 0");
        Script.holds("10: one that is GONE may be changed",
            "part 2 0 1 1 0; fall 99 = 1; be 0 4 7 = 0; be 0 5 8 = 0; told 0 4 = 7; told 0 5 = 8; told 0 8 = 0");
    }

    private static void bears() {
        Script.holds("1: BEARS of a PART: STRENGTH alone", "part 0 0 999 1 0; be 0 4 99; be 0 5 99; bears 0 = 9990000");
        Script.holds("1: BEARS of a COLUMN: FLAW alone",
            "part 1 0 999 1 0; bears 0 = 9990000; be 0 5 99; bears 0 = 9990000; be 0 4 99; bears 0 = 99900",
            "be 0 4 1; bears 0 = 9890100");
        Script.holds("1: BEARS of a TIE: SLACK alone",
            "part 2 0 999 1 0; bears 0 = 9990000; be 0 4 99; bears 0 = 9990000; be 0 5 99; bears 0 = 99900",
            "be 0 5 1; bears 0 = 9890100");
        Script.holds("1: BEARS of a LUG: both, never 0",
            "part 3 0 1 1 0; bears 0 = 10000; be 0 4 99; bears 0 = 100; be 0 5 99; bears 0 = 1; be 0 4 0",
            "bears 0 = 100");
        Script.holds("14: of a PIECE and of one that is GONE, too",
            "piece 0 0 0; part 3 0 10 1 0; be 1 5 50; fall 99 = 1; bears 0 = 10000; bears 1 = 50000");
        Script.holds("14: BAD: no such PART",
            "part 0 0 1 1 0; bears 1 = BAD; bears -1 = BAD; bears HIGH = BAD; bears LOW = BAD; bears 0 = 10000");
    }

    private static void pulls() {
        Script.holds("12: a GUST is 0 .. 99",
            "pull 0 0 = 0; pull 0 99 = 890; pull 0 100 = BAD; pull 0 -1 = BAD; pull 0 HIGH = BAD; pull 0 LOW = BAD");
        Script.holds("12: BAD: no such PIER",
            "pull 4 99 = 890; pull 5 99 = BAD; pull -1 99 = BAD; pull HIGH 0 = BAD; pull LOW 0 = BAD");
        Script.holds("1: PULL is 0 at least", "pull 0 9 = 0; pull 0 10 = 0; pull 0 11 = 10; pull 1 10 = 0; pull 1 11 = 20");
        Script.holds("1: the most and the least of all",
            "span 0 1 99; span 1 1 99; span -1 1 99; span 0 0 0; span 1 0 0; train 1; pull 1 99 = 29403",
            "pull 0 99 = 9801; span 0 1 0; span 1 1 0; span -1 1 0; pull 1 99 = 0; span 0 0 99; span 1 0 99",
            "span -1 0 99; pull 1 99 = 0");
        Script.holds("1: THE TRAIN, if it is on one of these: both PIERS of its SPAN, and no others",
            "span -1 0 1; span -1 1 20; train 1; pull 0 20 = 100; pull 1 20 = 590; pull 2 20 = 590; pull 3 20 = 200",
            "train 0; pull 0 20 = 490; pull 1 20 = 590; pull 2 20 = 200; train 3; pull 4 20 = 490; train NONE",
            "pull 4 20 = 100");
        Script.holds("1: a WEIGHT of THE TRAIN holds down", "span -1 0 10; train 0; pull 0 20 = 0; pull 0 21 = 10");
        Script.holds("1: SPANS that are DOWN do not pull, nor THE TRAIN that is DOWN",
            "span 0 1 30; span -1 1 99; part 0 0 1 1 0; train 0; pull 1 50 = 6750; fall 99 = 1; pull 0 99 = 0",
            "pull 1 50 = 400");
    }

    private static void loads() {
        Script.holds("13: LOAD by 10000 is cut",
            "part 0 0 9 1 0; part 0 0 9 2 0; part 0 0 9 4 0; load 0 11 = 1; load 1 11 = 2; load 2 11 = 5",
            "load 0 10 = 0; load 0 99 = 127; load 1 99 = 254; load 2 99 = 508");
        Script.holds("13: alone it bears all, whatever its SHARE",
            "part 0 0 9 9 0; load 0 99 = 890; part 0 1 9 1 0; load 0 99 = 890; load 1 99 = 1780");
        Script.holds("13: the most of all",
            "span 0 1 99; span 1 1 99; span -1 1 99; span 0 0 0; span 1 0 0; train 0; part 0 1 1 9 0",
            "load 0 99 = 29403");
        Script.holds("13: SHARES of all that STAND alone",
            "part 0 0 1 3 0; part 0 0 999 1 0; piece 0 0 0; load 1 99 = 222; fall 99 = 1; load 1 99 = 890",
            "load 0 99 = NO");
        Script.holds("13: NO: it is GONE, or a PIECE; BAD stands first",
            "part 0 0 1 1 0; piece 0 0 0; fall 99 = 1; load 0 0 = NO; load 1 0 = NO; load 0 100 = BAD",
            "load 1 -1 = BAD; load 2 0 = BAD; load -1 0 = BAD; load 0 HIGH = BAD; load HIGH 0 = BAD",
            "load LOW 0 = BAD");
        Script.holds("13: a GUST is 0 .. 99",
            "part 0 0 1 1 0; load 0 0 = 0; load 0 99 = 890; load 0 100 = BAD; load 0 -1 = BAD");
    }

    private static void over() {
        Script.holds("1: OVER: LOAD above BEARS, not as much",
            "part 0 0 40 1 0; first 14 = NONE; first 15 = 0; fall 14 = 0; fall 15 = 1");
        Script.holds("1: a LOAD is a share, not cut",
            "span 0 0 0; span 0 1 1; part 0 0 1 1 0; part 0 0 999 2 0; first 3 = NONE; first 4 = 0");
        Script.holds("1: by a hair: a LUG that bears 1",
            "span 0 0 0; span 0 1 1; part 3 0 1 1 0; be 0 4 99; be 0 5 99; first 0 = NONE; first 1 = 0");
        Script.holds("1: by a hair: a COLUMN that bears 1 by 100 less than it pulls",
            "span 0 0 0; span 0 1 50; part 1 0 100 1 0; first 2 = NONE; be 0 4 1; first 2 = 0");
        Script.holds("1: by a hair: a LUG that bears 1 by 10000 less than it pulls",
            "span 0 0 0; part 3 0 101 1 0; first 10 = NONE; safe = 10; be 0 4 1; bears 0 = 999900; first 10 = 0",
            "safe = 9; first 9 = NONE");
        Script.holds("1: great numbers do not wrap",
            "span 0 1 99; span 1 1 99; span -1 1 99; span 0 0 0; span 1 0 0; train 0; part 0 1 999 9 0",
            "part 0 1 999 9 0; first 99 = 0; fall 99 = 2; count 1 = 2");
        Script.holds("1: great numbers that hold",
            "span 0 1 10; span 0 0 0; part 0 0 990 9 0; first 99 = NONE; span 0 1 11; first 99 = 0");
    }

    private static void firsts() {
        Script.holds("15: a GUST is 0 .. 99",
            "part 0 0 1 1 0; first 0 = NONE; first 99 = 0; first 100 = BAD; first -1 = BAD; first LOW = BAD",
            "first HIGH = BAD");
        Script.holds("15: LOAD by BEARS the greatest, not LOAD, not BEARS",
            "part 0 0 100 9 0; part 0 0 10 1 0; part 0 4 300 1 0; span 0 1 99; span 3 1 99; first 99 = 1");
        Script.holds("15: of several the least number, though others are alike",
            "part 0 0 30 3 0; part 0 0 10 1 0; part 0 0 20 2 0; first 99 = 0");
        Script.holds("15: of several the least number, at several PIERS",
            "part 0 4 10 1 0; part 0 0 10 1 0; first 99 = 0; span 0 1 11; first 99 = 1; span 3 1 11; first 99 = 0");
        Script.holds("15: alike but for one hundredth",
            "part 1 0 500 1 0; part 2 4 500 1 0; span 0 1 99; span 3 1 99; first 99 = 0; be 1 5 1; first 99 = 1",
            "be 0 4 1; first 99 = 0");
        Script.holds("15: by shares that are not cut",
            "part 0 0 1 1 0; part 0 0 1 1 0; part 0 0 1 1 0; part 0 4 1 2 0; part 0 4 1 1 0; part 0 4 1 2 0",
            "span 3 1 10; first 20 = 3");
        Script.holds("15: what is GONE is not first",
            "part 0 0 1 1 0; part 0 0 500 1 0; first 99 = 0; fall 20 = 1; first 20 = NONE; first 99 = 1");
    }

    private static void falls() {
        Script.holds("16: a GUST is 0 .. 99",
            "part 0 0 1 1 0; fall 0 = 0; fall 100 = BAD; fall -1 = BAD; fall LOW = BAD; fall HIGH = BAD",
            "count 3 = 0; fall 99 = 1");
        Script.holds("16: all 40 go", "40 x part 0 0 1 1 0; fall 99 = 40; count 3 = 40; count 1 = 1; fall 99 = 0");
        Script.holds("16: as one goes the others bear more",
            "part 0 0 400 1 0; part 0 0 500 1 0; fall 89 = 0; fall 91 = 2; count 1 = 1");
        Script.holds("16: as one goes the other holds",
            "part 0 0 399 1 0; part 0 0 810 1 0; fall 90 = 1; told 0 8 = 0; told 1 8 = 1; count 1 = 0; fall 91 = 0",
            "fall 92 = 1; count 1 = 1");
        Script.holds("16: PIER 0 takes SPAN 0 alone with it",
            "part 0 0 1 1 0; fall 99 = 1; has 0 2 = 1; has 1 2 = 0; count 1 = 1");
        Script.holds("16: a PIER between takes both",
            "part 0 2 1 1 0; fall 99 = 1; has 0 2 = 0; has 1 2 = 1; has 2 2 = 1; has 3 2 = 0; count 1 = 2");
        Script.holds("16: the last PIER takes the last SPAN alone",
            "part 0 4 1 1 0; fall 99 = 1; has 3 2 = 1; has 2 2 = 0; count 1 = 1");
        Script.holds("16: the last PIER of the most SPANS",
            "spans 12; part 0 12 1 1 0; fall 99 = 1; has 11 2 = 1; has 10 2 = 0; count 1 = 1");
        Script.holds("16: one that is left holds its PIER",
            "part 0 1 1 1 0; part 0 1 999 1 0; span 0 1 20; fall 30 = 1; count 1 = 0; count 3 = 1");
        Script.holds("16: a PIER at which no PART ever stood does not fall",
            "piece 1 0 0; part 0 3 999 1 0; fall 99 = 1; has 2 2 = 1; has 3 2 = 1; has 0 2 = 0; has 1 2 = 0");
        Script.holds("16: a PIECE does not hold a PIER", "piece 0 0 0; part 0 0 1 1 0; fall 99 = 1; has 0 2 = 1");
        Script.holds("16: one PIER's fall frees the next one",
            "part 0 0 1 1 0; part 0 1 600 1 0; span 0 1 11; fall 40 = 1; count 1 = 1; told 1 8 = 1; pull 1 40 = 300");
        Script.holds("16: one PIER's fall brings the next one down, which a heavy SPAN held",
            "spans 3; span 0 0 0; span 0 1 99; span 1 0 50; span 1 1 0; span 2 0 0; part 0 1 1 1 0",
            "part 0 2 100 1 0; pull 2 20 = 0; first 20 = 0; next 20 1 = 1; fall 10 = 1; pull 2 10 = 100",
            "count 1 = 2; raise = 1; fall 20 = 2; count 1 = 3; told 1 8 = 0");
    }

    private static void fallenTrain() {
        Script.holds("1: THE TRAIN is DOWN, if it is on one of these SPANS",
            "part 0 1 1 1 0; train 0; fall 99 = 1; count 15 = 1; count 14 = NONE; raise; train 1; fall 99 = 1",
            "count 15 = 1; has 1 3 = 0; raise; train 2; fall 99 = 1; count 15 = 0; count 14 = 2; has 2 3 = 1");
        Script.holds("1: THE TRAIN on none is not", "part 0 1 1 1 0; fall 99 = 1; count 15 = 0; count 14 = NONE");
        Script.holds("1: THE TRAIN holds till the last PART at the PIER goes",
            "part 0 0 1 1 0; part 0 0 999 1 0; train 0; fall 50 = 1; count 15 = 0; count 14 = 0");
    }

    private static void staysSo() {
        Script.holds("1: what is GONE or DOWN stays so till raise()",
            "part 2 0 1 1 0; train 0; fall 99 = 1; fall 0 = 0; months 1 100; night 59 = 1; told 0 8 = 0",
            "has 0 2 = 1; span 0 1 0; be 0 5 0; fall 0 = 0; told 0 8 = 0; has 0 2 = 1; count 1 = 1; raise = 1",
            "told 0 8 = 1; has 0 2 = 0");
        Script.holds("1: a new PART at a PIER that fell stands, and has no PULL to bear",
            "part 0 0 1 1 0; fall 99 = 1; part 0 0 1 1 0 = 1; told 1 8 = 1; load 1 99 = 0; fall 99 = 0; has 0 2 = 1",
            "raise = 1; load 1 99 = 445");
        Script.holds("1: a SPAN that is DOWN is taken by its other PIER no more",
            "part 0 0 1 1 0; part 0 1 999 1 0; fall 50 = 1; count 1 = 1; fall 99 = 0; span 1 1 99; fall 99 = 1",
            "count 1 = 2");
    }

    private static void raises() {
        Script.holds("11: all that is GONE stands, all SPANS are up, THE TRAIN is on none",
            "part 0 0 1 1 0; part 0 4 1 1 0; train 0; fall 99 = 2; count 1 = 2; count 15 = 1; raise = 2",
            "count 1 = 0; count 3 = 0; count 15 = 0; count 14 = NONE; raise = 0");
        Script.holds("11: THE TRAIN is on none, even if nothing fell", "train 2; raise = 0; count 14 = NONE; has 2 3 = 0");
        Script.holds("11: FLAW, SLACK, WEIGHT and SAIL are as they were",
            "part 3 0 9 1 0; be 0 4 7; be 0 5 8; span 0 0 3; span 0 1 4; span -1 0 5; fall 99 = 1; raise = 1",
            "told 0 4 = 7; told 0 5 = 8; has 0 0 = 3; has 0 1 = 4; span -1 0 0 = 5");
        Script.holds("11: how many PARTS were GONE, all 40",
            "40 x part 0 0 1 1 0; raise = 0; fall 99 = 40; raise = 40; raise = 0");
    }

    private static void nexts() {
        Script.holds("17: from 0 on; NONE behind the last one",
            "part 0 0 3 1 0; part 0 0 1 1 0; part 0 0 2 1 0; next 99 0 = 1; next 99 1 = 2; next 99 2 = 0",
            "next 99 3 = NONE; next 99 40 = NONE; next 99 HIGH = NONE; next 10 0 = NONE; count 3 = 0");
        Script.holds("17: BAD: gust, i below 0",
            "part 0 0 1 1 0; next 100 0 = BAD; next -1 0 = BAD; next 99 -1 = BAD; next 0 LOW = BAD",
            "next HIGH HIGH = BAD; next 99 0 = 0; next 0 0 = NONE");
        Script.holds("17: all is as before: PARTS, SPANS, THE TRAIN, THE IMAGE",
            "part 0 0 1 1 0; part 0 1 1 1 0; train 0; keep; next 99 9 = NONE; count 1 = 0; count 3 = 0",
            "count 14 = 0; count 15 = 0; back = 0; count 14 = 0");
        Script.holds("17: the last of 40", "40 x part 0 0 1+@ 1 0; next 99 39 = 39; next 99 0 = 0; next 99 40 = NONE");
        Script.holds("17: by KIND, FLAW and SLACK of each",
            "part 0 0 91 1 0; part 1 0 100 1 0; part 2 0 100 1 0; part 3 0 100 1 0; 4 x be @ 4 8; 4 x be @ 5 7",
            "next 99 0 = 3; next 99 1 = 0; next 99 2 = 1; next 99 3 = 2; next 99 4 = NONE");
        Script.holds("17: it goes on from what is GONE",
            "part 0 0 1 1 0; part 0 0 2 1 0; part 0 0 400 1 0; fall 30 = 2; next 99 0 = 2; next 99 1 = NONE");
    }

    private static void safes() {
        Script.holds("18: no PART: 99", "safe = 99; piece 0 0 0; safe = 99");
        Script.holds("18: 99 at most", "part 0 0 890 1 0; safe = 99; part 0 0 890 1 0; safe = 99");
        Script.holds("18: the greatest GUST at which none is OVER",
            "part 0 0 889 1 0; safe = 98; part 0 4 880 1 0; safe = 98; part 0 1 1759 1 0 = BAD; part 0 1 879 1 0",
            "safe = 53");
        Script.holds("18: 0, as no PULL at 0 is above 0",
            "span 0 0 0; span 0 1 99; part 3 0 1 1 0; be 0 4 99; be 0 5 99; safe = 0; first 0 = NONE; first 1 = 0");
        Script.holds("18: shares are not cut",
            "span 0 0 0; span 0 1 1; part 0 0 1 1 0; part 0 0 999 2 0; safe = 3; part 0 0 999 1 0; safe = 4");
        Script.holds("18: by its own SHARE of all",
            "part 0 0 20 2 0; part 0 0 999 1 0; safe = 13; first 13 = NONE; first 14 = 0; part 0 0 999 9 0",
            "safe = 22; first 22 = NONE; first 23 = 0");
        Script.holds("18: all as it is: with THE TRAIN, GONE ones, SLACK",
            "part 2 0 100 1 0; safe = 20; be 0 5 50; safe = 15; span -1 1 10; train 0; safe = 7; train 1; safe = 15",
            "fall 99 = 1; safe = 99");
        Script.holds("18: of 40 PARTS, the last one, too",
            "39 x part 0 0 999 1 0; safe = 99; part 0 4 890 1 0; safe = 99; be 39 4 1; safe = 99; raise; span 3 1 11; safe = 90");
        Script.holds("18: no SAIL: 99", "span 0 1 0; part 3 0 1 1 0; be 0 4 99; be 0 5 99; safe = 99; span 0 0 0; safe = 99");
    }

    private static void calls512() {
        Script.answers("An object is used for at most 512 calls: the 512th answers as due",
            "40 x part @/10 0 1+@ 1+@/5 @/8; 40 x next 99 0 = 0; 431 x next 99 40+@ = NONE; fall 99 = 40");
        Script.answers("512 calls: what each call finds is what the one ahead of it left",
            "span 3 0 0 = 10; 511 x span 3 0 @+1-(@+1)/100*100 = @-@/100*100");
    }
}
