/** Promises 49 to 59: tests, straps, rows and images. */
public final class ImageTest {
    public static void main(String[] args) {
        promise49();
        promise50();
        promise51();
        promise52();
        promise52Places();
        promise53();
        promise54();
        promise54Ties();
        promise54First();
        promise54Alike();
        promise55();
        promise56();
        promise56Images();
        promise57();
        promise58();
        promise58Keeps();
        promise58Again();
        promise59();
        Due.end("ImageTest");
    }

    private static void promise49() {
        Due.about("promise 49");
        GaleBridge x = new GaleBridge();
        Due.is("floats", x.test(0, 0, 24), 24);
        Due.is("shorts", x.test(5, 1, 0), 0);
        Due.is("all 0", x.read(0, 23), 0);
        Due.is("no place", x.read(5, 0), Due.INDEX);
        Due.is("wrong", x.test(-1, 0, 1), Due.BAD);
        Due.is("wrong", x.test(6, 0, 1), Due.BAD);
        Due.is("wrong", x.test(0, -2, 1), Due.BAD);
        Due.is("wrong", x.test(0, 2, 1), Due.BAD);
        Due.is("wrong", x.test(0, 0, 25), Due.BAD);
        Due.is("size", x.test(0, 1, -1), Due.SIZE);
        Due.is("size", x.test(0, 0, Due.LOW), Due.SIZE);
        Due.is("BAD comes first", x.test(0, 2, -1), Due.BAD);
        Due.is("still there", x.read(0, 0), 0);
        x.put(0, 0, 5);
        Due.is("anew", x.test(0, 0, 2), 2);
        Due.is("all 0", x.read(0, 0), 0);
        Due.is("another sort", x.test(0, 1, 2), 2);
        Due.is("missing", x.test(0, -1, Due.LOW), 0);
        Due.is("missing", x.read(0, 0), Due.NOTHING);
        Due.is("missing again", x.test(0, -1, 25), 0);
        Due.is("wrong all the same", x.test(6, -1, 0), Due.BAD);
    }

    private static void promise50() {
        Due.about("promise 50");
        GaleBridge x = new GaleBridge();
        x.test(0, 0, 2);
        x.test(1, 1, 2);
        Due.is("put", x.put(0, 1, 100000), 1);
        Due.is("read", x.read(0, 1), 100000);
        Due.is("put", x.put(0, 1, -100000), 1);
        Due.is("read", x.read(0, 1), -100000);
        Due.is("too much", x.put(0, 1, 100001), Due.BAD);
        Due.is("too little", x.put(0, 1, -100001), Due.BAD);
        Due.is("as it was", x.read(0, 1), -100000);
        Due.is("no number", x.put(0, 1, Due.NONE), 1);
        Due.is("of shorts", x.put(1, 0, Due.NONE), Due.KIND);
        int[][] shorts = {{32767, 32767}, {32768, -32768}, {65535, -1}, {65536, 0}, {-1, -1}, {Due.LOW, 0}, {Due.HIGH, -1},
            {0x12348765, 0x8765 - 65536}, {Due.BAD, (short) Due.BAD}};
        for (int[] s : shorts) {
            Due.is("put", x.put(1, 1, s[0]), 1);
            Due.is("its lowest 16 bits", x.read(1, 1), s[1]);
        }
        Due.is("test", x.put(6, 0, 0), Due.BAD);
        Due.is("test", x.put(-1, 9, 0), Due.BAD);
        Due.is("missing", x.put(2, 9, Due.NONE), Due.NOTHING);
        Due.is("place", x.put(0, 2, 100001), Due.INDEX);
        Due.is("place", x.put(0, -1, 0), Due.INDEX);
        Due.is("place", x.put(1, 2, Due.NONE), Due.INDEX);
        Due.is("place", x.put(1, Due.HIGH, 0), Due.INDEX);
    }

    private static void promise51() {
        Due.about("promise 51");
        GaleBridge x = new GaleBridge();
        x.test(0, 0, 4);
        x.put(0, 0, Due.NONE);
        x.put(0, 1, -7);
        x.put(0, 2, -1);
        x.put(0, 3, -2);
        Due.is("the middle, cut towards 0", x.read(0, 0), -3);
        x.put(0, 3, Due.NONE);
        Due.is("of those that are numbers", x.read(0, 0), -4);
        Due.is("a number is itself", x.read(0, 2), -1);
        x.put(0, 1, 8);
        x.put(0, 2, 9);
        Due.is("cut", x.read(0, 3), 8);
        x.put(0, 1, Due.NONE);
        Due.is("of one", x.read(0, 3), 9);
        x.put(0, 0, 5);
        Due.is("of the first one, too", x.read(0, 3), 7);
        x.put(0, 0, Due.NONE);
        x.put(0, 2, Due.NONE);
        Due.is("no other is one", x.read(0, 3), Due.KIND);
        x.test(1, 0, 24);
        for (int i = 1; i < 24; i++) {
            x.put(1, i, 100000);
        }
        x.put(1, 0, Due.NONE);
        Due.is("a great sum", x.read(1, 0), 100000);
        Due.is("test", x.read(6, 0), Due.BAD);
        Due.is("test", x.read(-1, 0), Due.BAD);
        Due.is("missing", x.read(2, 0), Due.NOTHING);
        Due.is("missing, no place", x.read(2, -1), Due.NOTHING);
        Due.is("place", x.read(0, 4), Due.INDEX);
        Due.is("place", x.read(0, -1), Due.INDEX);
    }

    private static void promise52() {
        Due.about("promise 52");
        GaleBridge x = new GaleBridge();
        x.test(0, 1, 5);
        x.test(1, 1, 3);
        for (int i = 0; i < 5; i++) {
            x.put(0, i, i + 1);
        }
        Due.is("to another", x.copy(0, 1, 1, 0, 3), 3);
        row(x, 1, 2, 3, 4);
        Due.is("to the same, ahead", x.copy(0, 0, 0, 1, 4), 4);
        row(x, 0, 1, 1, 2, 3, 4);
        Due.is("to the same, back", x.copy(0, 1, 0, 0, 4), 4);
        row(x, 0, 1, 2, 3, 4, 4);
        x.test(2, 0, 3);
        x.test(3, 0, 2);
        x.put(2, 0, Due.NONE);
        x.put(2, 1, 10);
        x.put(3, 1, 4);
        Due.is("as they were", x.copy(2, 0, 3, 0, 1), 1);
        Due.is("no number, the middle of its new row", x.read(3, 0), 4);
        Due.is("no number, the middle of its row", x.read(2, 0), 5);
    }

    private static void row(GaleBridge x, int test, int... due) {
        for (int i = 0; i < due.length; i++) {
            Due.is("place " + i, x.read(test, i), due[i]);
        }
    }

    private static void promise52Places() {
        Due.about("promise 52, places");
        GaleBridge x = new GaleBridge();
        x.test(0, 1, 5);
        x.test(1, 1, 3);
        x.test(2, 0, 3);
        x.test(4, 1, 0);
        int[][] wrong = {{-1, 0, 0, 0, 0}, {6, 0, 0, 0, 0}, {0, 0, -1, 0, 0}, {0, 0, 6, 0, 0}, {3, 0, 6, 0, 0}};
        for (int[] w : wrong) {
            Due.is("wrong", x.copy(w[0], w[1], w[2], w[3], w[4]), Due.BAD);
        }
        Due.is("missing", x.copy(3, 0, 0, 0, 0), Due.NOTHING);
        Due.is("missing", x.copy(2, 0, 3, 0, -1), Due.NOTHING);
        Due.is("sorts", x.copy(0, 0, 2, 0, 1), Due.KIND);
        Due.is("sorts come first", x.copy(2, 9, 0, 9, -1), Due.KIND);
        int[][] off = {{0, -1, 1, 0, 1}, {0, 0, 1, -1, 1}, {0, 0, 1, 0, -1}, {0, 0, 1, 0, 4}, {0, 3, 1, 0, 3}, {0, 0, 1, 1, 3},
            {0, 5, 1, 0, 1}, {0, 6, 1, 0, 0}, {0, 0, 1, 4, 0}, {0, Due.HIGH, 1, 0, Due.HIGH}, {0, 1, 1, 1, Due.HIGH},
            {0, Due.HIGH, 1, 0, 1}, {0, Due.LOW, 1, 0, Due.LOW}, {4, 0, 4, 0, 1}, {0, -1, 1, 0, 0}};
        for (int[] w : off) {
            Due.is("index", x.copy(w[0], w[1], w[2], w[3], w[4]), Due.INDEX);
        }
        Due.is("none, behind the last one", x.copy(0, 5, 1, 3, 0), 0);
        Due.is("none of none", x.copy(4, 0, 4, 0, 0), 0);
        Due.is("all", x.copy(1, 0, 0, 2, 3), 3);
    }

    private static void promise53() {
        Due.about("promise 53");
        GaleBridge x = new GaleBridge();
        x.part(0, 0, 1, 1, 0);
        x.part(1, 0, 1, 1, 0);
        x.piece(0, 0, 0);
        for (int i = 0; i < 9; i++) {
            x.part(2 + i % 2, 0, 1, 1, 0);
        }
        for (int part = 0; part < 3; part++) {
            Due.is("no tie", x.strap(part), Due.KIND);
        }
        Due.is("wrong", x.strap(12), Due.BAD);
        Due.is("wrong", x.strap(-1), Due.BAD);
        for (int i = 0; i < 8; i++) {
            Due.is("strap", x.strap(3 + i), i + 1);
            Due.is("it is one already", x.strap(3 + i), Due.NO);
        }
        Due.is("full", x.strap(11), Due.FULL);
        Due.is("KIND comes first", x.strap(0), Due.KIND);
        Due.is("NO comes first", x.strap(3), Due.NO);
        Due.is("straps", x.count(10), 8);
    }

    private static void promise54() {
        Due.about("promise 54");
        GaleBridge x = new GaleBridge();
        x.spans(2);
        x.part(2, 0, 100, 1, 0);
        x.part(3, 1, 100, 1, 0);
        x.part(2, 2, 100, 1, 0);
        x.span(0, 0, 0);
        x.span(1, 0, 0);
        Due.is("none may be", x.straps(8, 0), 5);
        Due.is("no set", x.straps(8, 1), 0);
        x.be(0, 5, 90);
        x.be(1, 5, 60);
        x.be(2, 5, 80);
        x.be(1, 4, 50);
        Due.is("safe", x.safe(), 1);
        x.strap(2);
        x.strap(0);
        x.strap(1);
        int[][] due = {{1, 0}, {1, 0}, {2, 6}, {2, 6}};
        for (int k = 0; k < due.length; k++) {
            Due.is("safe of " + k, x.straps(k, 0), due[k][0]);
            Due.is("set of " + k, x.straps(k, 1), due[k][1]);
        }
        x.be(1, 5, 0);
        x.be(1, 4, 0);
        Due.is("one helps not for the other is as bad", x.straps(0, 0), 1);
        Due.is("one: the worse one", x.straps(1, 1), 2);
        Due.is("to", x.straps(1, 0), 2);
        Due.is("two", x.straps(2, 1), 3);
        Due.is("to", x.straps(2, 0), 5);
        Due.is("no more than it takes", x.straps(8, 1), 3);
        Due.is("slack is as it was", x.told(0, 5), 90);
        int[][] wrong = {{-1, 0}, {9, 0}, {0, -1}, {0, 2}};
        for (int[] w : wrong) {
            Due.is("wrong", x.straps(w[0], w[1]), Due.BAD);
        }
    }

    private static void promise54Ties() {
        Due.about("promise 54, of several");
        GaleBridge x = new GaleBridge();
        x.spans(2);
        x.part(2, 0, 100, 1, 0);
        x.part(2, 1, 100, 1, 0);
        x.part(1, 1, 100, 9, 0);
        for (int i = 0; i < 6; i++) {
            x.part(3, 2, 900, 1, 0);
        }
        for (int part = 3; part < 9; part++) {
            x.be(part, 5, 99);
            x.strap(part);
        }
        x.strap(0);
        x.strap(1);
        x.be(0, 5, 99);
        Due.is("9 a lug, 6 of them, and 100, by 10", x.straps(0, 0), 10);
        Due.is("alone", x.safe(), 10);
        Due.is("the tie first", x.straps(1, 1), 64);
        Due.is("to what the others let", x.straps(1, 0), 15);
        Due.is("no lug, as the column lets no more", x.straps(8, 1), 64);
        x.fall(99);
        Due.is("what is gone matters not", x.straps(8, 1), 0);
        Due.is("safe", x.straps(8, 0), 99);
    }

    private static void promise54First() {
        Due.about("promise 54, the first one");
        GaleBridge x = new GaleBridge();
        x.spans(2);
        x.span(0, 0, 0);
        x.span(0, 1, 1);
        x.part(1, 1, 35, 1, 0);
        x.part(3, 0, 30, 1, 0);
        x.be(1, 5, 50);
        x.strap(1);
        Due.is("what the column lets, which may not be strapped", x.straps(0, 0), 12);
        Due.is("no more", x.straps(1, 0), 12);
        Due.is("no set", x.straps(1, 1), 0);
        x.span(1, 1, 0);
        Due.is("now it is the lug", x.straps(0, 0), 15);
        Due.is("strapped", x.straps(1, 0), 30);
        Due.is("the first one", x.straps(1, 1), 1);
        x.part(2, 0, 30, 1, 0);
        x.be(2, 5, 50);
        x.strap(2);
        Due.is("either helps not by itself", x.straps(1, 1), 0);
        Due.is("both do", x.straps(2, 1), 3);
        Due.is("to", x.straps(2, 0), 60);
        x.be(1, 5, 0);
        x.be(2, 5, 0);
        x.strap(2);
        Due.is("none slack: none is strapped", x.straps(8, 1), 0);
    }

    private static void promise54Alike() {
        Due.about("promise 54, alike");
        GaleBridge x = new GaleBridge();
        x.spans(2);
        x.span(0, 0, 0);
        x.span(0, 1, 1);
        x.part(2, 0, 30, 1, 0);
        x.strap(0);
        x.be(0, 5, 50);
        x.keep();
        Due.is("one alone", x.straps(8, 1), 1);
        x.part(2, 0, 30, 9, 0);
        x.strap(1);
        x.be(1, 5, 60);
        Due.is("12 and 1 by 9 of it", x.straps(0, 0), 13);
        Due.is("the second one", x.straps(1, 1), 2);
        Due.is("to", x.straps(1, 0), 33);
        x.back();
        Due.is("one alone", x.straps(8, 0), 30);
    }

    private static void promise55() {
        Due.about("promise 55");
        GaleBridge x = new GaleBridge();
        for (int i = 1; i <= 60; i++) {
            Due.is("tell", x.tell(i * Due.NONE), i);
        }
        Due.is("full", x.tell(0), Due.FULL);
        Due.is("wait", x.count(11), 60);
        x.check(1);
        Due.is("none waits", x.count(11), 0);
        Due.is("tell", x.tell(0), 1);
    }

    private static int check(GaleBridge x, int n, int... told) {
        for (int v : told) {
            x.tell(v);
        }
        int answer = x.check(n);
        Due.is("none waits", x.count(11), 0);
        return answer;
    }

    private static void promise56() {
        Due.about("promise 56");
        GaleBridge x = new GaleBridge();
        x.part(0, 0, 50, 1, 0);
        x.part(0, 2, 50, 1, 0);
        x.gust(0, 16);
        x.gust(2, 99);
        Due.is("no image", check(x, 1, 1, 1), Due.NO);
        Due.is("BAD comes first", check(x, 0, 1, 1), Due.BAD);
        x.keep();
        Due.is("wrong", check(x, 0, 1), Due.BAD);
        Due.is("wrong", check(x, 31, 1), Due.BAD);
        Due.is("wrong", check(x, -1, 1), Due.BAD);
        Due.is("at 16 pier 0 pulls 60, pier 2 120", check(x, 1, 2, 3), 0);
        Due.is("wrong gone", check(x, 1, 1, 3), 1);
        Due.is("wrong down", check(x, 1, 2, 2), 2);
        Due.is("missing", check(x, 1), 1);
        Due.is("missing", check(x, 1, 2), 2);
        Due.is("one too many", check(x, 1, 2, 3, 2), 3);
        Due.is("two too many", check(x, 1, 2, 3, 2, 3), 3);
        Due.is("a wrong one comes first", check(x, 1, 9, 3, 2, 3), 1);
        x.part(0, 4, 500, 1, 0);
        x.keep();
        Due.is("two seconds", check(x, 2, 2, 3, 2, 3), 0);
        Due.is("three", check(x, 3, 2, 3, 2, 3, 3, 4), 0);
        Due.is("three, the last is wrong", check(x, 3, 2, 3, 2, 3, 3, 3), 6);
        Due.is("three, one is missing", check(x, 3, 2, 3, 2, 3, 3), 6);
        Due.is("three, the third pair is wrong", check(x, 3, 2, 3, 2, 3, 4, 4), 5);
        int[] all = new int[60];
        for (int i = 0; i < 60; i++) {
            all[i] = i < 4 ? 2 + i % 2 : 3 + i % 2;
        }
        Due.is("thirty", check(x, 30, all), 0);
        Due.is("29, one too many", check(x, 29, all), 59);
        Due.is("nothing changed", x.count(3), 0);
        Due.is("nothing changed", x.count(1), 0);
    }

    private static void promise56Images() {
        Due.about("promise 56, from the image");
        GaleBridge x = new GaleBridge();
        x.part(0, 0, 50, 1, 0);
        x.span(-1, 1, 90);
        x.runs(1, 20);
        x.gust(1, 2);
        x.keep();
        Due.is("the train comes in second 1", check(x, 2, 0, 0, 1, 1), 0);
        x.runs(Due.NONE, 1);
        x.gust(1, 0);
        x.be(0, 4, 1);
        x.part(0, 4, 1, 1, 0);
        x.train(3);
        Due.is("gusts, train and parts of the image", check(x, 2, 0, 0, 1, 1), 0);
        x.gust(0, 99);
        x.fall(99);
        Due.is("gone now", x.count(3), 2);
        Due.is("not in the image", check(x, 2, 0, 0, 1, 1), 0);
        Due.is("still gone", x.count(3), 2);
        x.keep();
        Due.is("gone in the image", check(x, 1, 2, 2), 0);
        x.raise();
        Due.is("gone in the image", check(x, 1, 2, 2), 0);
        x.runs(Due.NONE, 1);
        x.gust(0, 2);
        x.train(0);
        x.keep();
        Due.is("as the night begins the train is on none", check(x, 1, 0, 0), 0);
        x.train(Due.NONE);
        x.runs(0, 10);
        x.gust(0, 0);
        x.gust(1, 0);
        x.gust(2, 15);
        x.part(0, 1, 999, 1, 0);
        x.part(2, 2, 60, 1, 0);
        x.be(x.count(2) - 1, 5, 50);
        x.keep();
        Due.is("a tie in the image, and a train on the span behind", check(x, 3, 0, 0, 0, 0, 2, 3), 0);
    }

    private static void promise57() {
        Due.about("promise 57");
        GaleBridge x = new GaleBridge();
        Due.is("keep", x.keep(), 0);
        x.months(9, 0);
        Due.is("keep", x.keep(), 9);
        x.months(1, 0);
        Due.is("back", x.back(), 9);
        Due.is("month", x.count(13), 9);
    }

    private static void promise58() {
        Due.about("promise 58");
        GaleBridge x = new GaleBridge();
        Due.is("none", x.back(), Due.NO);
        x.part(2, 0, 30, 1, 0);
        x.keep();
        x.months(3, 999);
        x.part(3, 0, 1, 1, 0);
        Due.is("back", x.back(), 0);
        Due.is("parts", x.count(2), 1);
        Due.is("slack", x.told(0, 5), 0);
        Due.is("no such part", x.told(1, 0), Due.BAD);
        x.span(0, 1, 99);
        x.fall(99);
        Due.is("gone", x.count(3), 1);
        Due.is("again", x.back(), 0);
        Due.is("stands", x.count(3), 0);
        Due.is("sail", x.has(0, 1), 10);
        Due.is("up", x.has(0, 2), 0);
        x.piece(0, 5, 1);
        x.find(1, 1);
        x.back();
        x.part(2, 0, 1, 1, 0);
        x.be(1, 4, 5);
        x.be(1, 5, 6);
        x.back();
        x.part(1, 2, 3, 4, 5);
        int[] told = {1, 2, 3, 4, 0, 0, 5, 0, 1, 0, 0, 0};
        for (int what = 0; what < told.length; what++) {
            Due.is("a part in a piece's place: " + what, x.told(1, what), told[what]);
        }
    }

    /** Sets up one of all, with numbers that differ by v. */
    private static GaleBridge full(int v) {
        GaleBridge x = new GaleBridge();
        x.spans(3 + v);
        change(x, v);
        return x;
    }

    private static void change(GaleBridge x, int v) {
        x.span(1, 0, 20 + v);
        x.span(1, 1, 30 + v);
        x.span(-1, 0, 40 + v);
        x.span(-1, 1, 50 + v);
        x.train(1);
        x.part(2, 1, 60 + v, 1, 1);
        x.piece(1, v, 0);
        x.find(1, 1 - v);
        x.be(0, 4, 3 + v);
        x.be(0, 5, 4 + v);
        Due.text(x, "wind p+" + v, 0);
        Due.text(x, "speed w+" + v, 0);
        x.shake(8 + v);
        x.gust(7, 9 + v);
        x.runs(3 + v, 10 + v);
        x.story(4, 1, 10 + v);
        x.word(5 - v, 1 + v, 2 + v, 3 + v);
        x.saw(1, 3, 5 - v);
        x.saw(0, 9, 5 - v);
        x.saw(7, 0, 5 - v);
        x.station(6 + v, 7, 8);
        x.time(1, 2, 30 + v, 4);
        if (v == 0) {
            x.strap(0);
        }
        x.months(1 + v, 10);
        x.test(0, 1, 2);
        x.put(0, 0, 100 + v);
    }

    private static int[] picture(GaleBridge x) {
        int[] p = new int[64];
        int n = 0;
        for (int what : new int[] {0, 1, 2, 3, 4, 5, 6, 7, 8, 9, 10, 13, 14, 15}) {
            p[n++] = x.count(what);
        }
        for (int what = 0; what < 12; what++) {
            p[n++] = x.told(0, what);
            p[n++] = x.told(1, what);
        }
        p[n++] = x.has(1, 0);
        p[n++] = x.has(1, 1);
        p[n++] = x.rules(0, 1, 2, 3);
        p[n++] = x.rules(1, 1, 2, 3);
        p[n++] = x.why(0);
        p[n++] = x.fits();
        p[n++] = x.knew(2, 3, 5);
        p[n++] = x.knew(2, 3, 9);
        p[n++] = x.blind(3);
        p[n++] = x.aboard(0);
        p[n++] = x.aboard(1);
        p[n++] = x.speed(0);
        p[n++] = x.straps(1, 0);
        p[n++] = x.trust(0, 99);
        p[n++] = x.pull(1, 50);
        p[n++] = x.fast(42, 3);
        return p;
    }

    private static void promise58Keeps() {
        Due.about("promise 58, all that is kept");
        GaleBridge x = full(0);
        x.keep();
        int[] due = picture(full(0));
        change(x, 1);
        x.fall(99);
        x.feed(1, 2, 3);
        x.tell(1);
        Due.is("back", x.back(), 1);
        int[] got = picture(x);
        for (int i = 0; i < due.length; i++) {
            Due.is("picture " + i, got[i], due[i]);
        }
        Due.is("shake", x.shake(0), 8);
        Due.is("gust", x.gust(7, 0), 9);
        Due.is("story", x.story(4, 1, 0), 10);
        Due.is("train weight", x.span(-1, 0, 0), 40);
        Due.is("train sail", x.span(-1, 1, 0), 50);
        Due.is("saw", x.saw(1, 3, 99), 5);
        Due.is("saw", x.saw(0, 9, 99), 5);
        Due.is("saw", x.saw(7, 0, 99), 5);
        Due.is("strap", x.strap(0), Due.NO);
        x.night(3);
        Due.is("runs", x.count(14), 0);
        x.night(2);
        Due.is("runs", x.count(14), Due.NONE);
        x.night(4);
        Due.is("runs", x.count(14), 0);
        x.night(5);
        Due.is("runs", x.count(14), 1);
        x.night(7);
        Due.is("runs", x.count(14), 2);
        x.night(22);
        Due.is("tests are as they are", x.read(0, 0), 101);
        Due.is("the tape too", x.count(12), 12);
        Due.is("numbers that wait too", x.count(11), 1);
    }

    private static void promise58Again() {
        Due.about("promise 58, again and again");
        GaleBridge x = full(0);
        x.keep();
        int[] due = picture(full(0));
        for (int round = 0; round < 3; round++) {
            change(x, 1);
            x.spans(2);
            x.story(0, 0, 0);
            x.strap(2);
            x.back();
            int[] got = picture(x);
            for (int i = 0; i < due.length; i++) {
                Due.is("picture " + i, got[i], due[i]);
            }
        }
        GaleBridge y = new GaleBridge();
        y.keep();
        y.spans(12);
        y.back();
        Due.is("spans", y.count(0), 4);
        Due.is("no such span", y.has(4, 0), Due.BAD);
    }

    private static void promise59() {
        Due.about("promise 59");
        GaleBridge x = new GaleBridge();
        x.spans(5);
        x.part(2, 0, 1, 1, 0);
        x.part(2, 3, 999, 1, 0);
        x.part(3, 3, 999, 1, 0);
        for (int i = 0; i < 4; i++) {
            x.piece(0, 0, 0);
        }
        x.find(3, 1);
        x.find(4, 1);
        x.find(5, 1);
        Due.text(x, "wind 1", 0);
        Due.text(x, "wind 2", 0);
        for (int i = 0; i < 3; i++) {
            x.word(0, 0, 1, 0);
        }
        for (int i = 0; i < 4; i++) {
            x.station(0, 0, 0);
        }
        for (int i = 0; i < 5; i++) {
            x.time(0, 0, 0, 1);
        }
        x.strap(1);
        x.strap(2);
        for (int i = 0; i < 7; i++) {
            x.tell(i);
        }
        x.feed(0, 0, 0);
        x.trim(9);
        x.months(11, 0);
        x.train(0);
        x.fall(30);
        int[] due = {5, 1, 7, 1, 4, 3, 2, 3, 4, 5, 2, 7, 9, 11, Due.NONE, 1};
        for (int what = 0; what < due.length; what++) {
            Due.is("count " + what, x.count(what), due[what]);
        }
        x.train(4);
        Due.is("train", x.count(14), 4);
        Due.is("up", x.count(15), 0);
        Due.is("wrong", x.count(16), Due.BAD);
        Due.is("wrong", x.count(-1), Due.BAD);
        Due.is("wrong", x.count(Due.LOW), Due.BAD);
    }
}
