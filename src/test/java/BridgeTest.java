/** Promises 1 to 18: a new object, the bridge and its fall. */
public final class BridgeTest {
    public static void main(String[] args) {
        promise1();
        promise2();
        promise3();
        promise4();
        promise5();
        promise6();
        promise7();
        promise8();
        promise9();
        promise10();
        promise11();
        promise12();
        promise13();
        promise14();
        promise15();
        promise16();
        promise16FallsOn();
        promise17();
        promise18();
        Due.end("BridgeTest");
    }

    private static void promise1() {
        Due.about("promise 1");
        GaleBridge x = new GaleBridge();
        int[] counts = {4, 0, 0, 0, 0, 0, 0, 0, 0, 0, 0, 0, 0, 0, Due.NONE, 0};
        for (int what = 0; what < counts.length; what++) {
            Due.is("count(" + what + ")", x.count(what), counts[what]);
        }
        for (int span = 0; span < 4; span++) {
            Due.is("weight", x.has(span, 0), 10);
            Due.is("sail", x.has(span, 1), 10);
            Due.is("down", x.has(span, 2), 0);
            Due.is("train there", x.has(span, 3), 0);
        }
        Due.is("train weight", x.span(-1, 0, 1), 0);
        Due.is("train sail", x.span(-1, 1, 1), 0);
        Due.is("shake", x.shake(5), 5);
        for (int second = 0; second < 60; second++) {
            Due.is("gust", x.gust(second, 0), 0);
        }
        for (int story = 0; story < 8; story++) {
            Due.is("story", x.story(story, 0, 63), 63);
            Due.is("story", x.story(story, 1, 63), 63);
        }
        for (int test = 0; test < 6; test++) {
            Due.is("test", x.read(test, 0), Due.NOTHING);
        }
        Due.is("no image", x.back(), Due.NO);
        Due.is("no part", x.told(0, 0), Due.BAD);
        Due.is("safe", x.safe(), 99);
    }

    private static void promise2() {
        Due.about("promise 2");
        GaleBridge x = new GaleBridge();
        for (int n : new int[] {1, 13, 0, -1, Due.LOW, Due.HIGH, Due.NONE}) {
            Due.is("spans(" + n + ")", x.spans(n), Due.BAD);
        }
        Due.is("spans(12)", x.spans(12), 4);
        Due.is("last weight", x.span(11, 0, 3), 10);
        Due.is("last sail", x.span(11, 1, 4), 10);
        Due.is("train weight", x.span(-1, 0, 7), 0);
        x.train(11);
        Due.is("spans(2)", x.spans(2), 12);
        Due.is("train", x.count(14), Due.NONE);
        Due.is("spans(12)", x.spans(12), 2);
        Due.is("weight anew", x.has(11, 0), 10);
        Due.is("sail anew", x.has(11, 1), 10);
        Due.is("the train keeps its weight", x.span(-1, 0, 7), 7);
        Due.is("piece", x.piece(0, 0, 0), 0);
        Due.is("spans with a piece", x.spans(4), Due.NO);
        Due.is("BAD comes first", x.spans(1), Due.BAD);
        Due.is("count", x.count(0), 12);
    }

    private static void promise3() {
        Due.about("promise 3");
        GaleBridge x = new GaleBridge();
        Due.is("span(0,0,99)", x.span(0, 0, 99), 10);
        Due.is("span(0,0,0)", x.span(0, 0, 0), 99);
        Due.is("span(0,1,99)", x.span(0, 1, 99), 10);
        Due.is("weight", x.has(0, 0), 0);
        Due.is("sail", x.has(0, 1), 99);
        Due.is("another", x.has(1, 1), 10);
        Due.is("train", x.span(-1, 0, 99), 0);
        Due.is("train", x.span(-1, 1, 5), 0);
        Due.is("train", x.span(-1, 0, 0), 99);
        Due.is("train", x.span(-1, 1, 0), 5);
        int[][] wrong = {{-2, 0, 1}, {4, 0, 1}, {0, -1, 1}, {0, 2, 1}, {0, 0, -1}, {0, 1, 100}, {-1, 2, 1}, {-1, 0, 100},
            {Due.HIGH, 0, 1}, {Due.LOW, 0, 1}, {Due.NONE, 0, 0}};
        for (int[] w : wrong) {
            Due.is("wrong", x.span(w[0], w[1], w[2]), Due.BAD);
        }
        Due.is("sail stays", x.has(0, 1), 99);
    }

    private static void promise4() {
        Due.about("promise 4");
        GaleBridge x = new GaleBridge();
        x.span(3, 0, 31);
        x.span(3, 1, 32);
        x.train(3);
        Due.is("weight", x.has(3, 0), 31);
        Due.is("sail", x.has(3, 1), 32);
        Due.is("down", x.has(3, 2), 0);
        Due.is("train", x.has(3, 3), 1);
        Due.is("train elsewhere", x.has(2, 3), 0);
        Due.is("no such what", x.has(3, 4), Due.BAD);
        Due.is("no such what", x.has(3, -1), Due.BAD);
        Due.is("no such span", x.has(4, 0), Due.BAD);
        Due.is("the train is no span", x.has(-1, 0), Due.BAD);
        Due.is("no such span", x.has(Due.HIGH, 0), Due.BAD);
        Due.is("none is no span", x.has(Due.NONE, 3), Due.BAD);
        x.part(0, 4, 1, 1, 0);
        x.span(3, 1, 99);
        x.fall(99);
        Due.is("down", x.has(3, 2), 1);
        Due.is("train is down, not there", x.has(3, 3), 0);
        Due.is("weight of one that is down", x.has(3, 0), 31);
    }

    private static void promise5() {
        Due.about("promise 5");
        GaleBridge x = new GaleBridge();
        Due.is("onto 3", x.train(3), Due.NONE);
        Due.is("onto 0", x.train(0), 3);
        Due.is("wrong", x.train(4), Due.BAD);
        Due.is("wrong", x.train(-1), Due.BAD);
        Due.is("wrong", x.train(Due.LOW), Due.BAD);
        Due.is("onto none", x.train(Due.NONE), 0);
        Due.is("none", x.count(14), Due.NONE);
        x.part(0, 0, 1, 1, 0);
        x.span(0, 1, 99);
        x.train(0);
        Due.is("falls", x.fall(99), 1);
        Due.is("train down", x.count(15), 1);
        Due.is("on none", x.count(14), Due.NONE);
        Due.is("onto a span that is down", x.train(0), Due.NO);
        Due.is("still down", x.count(15), 1);
        Due.is("onto 1", x.train(1), Due.NONE);
        Due.is("up", x.count(15), 0);
        Due.is("on 1", x.count(14), 1);
        x.raise();
        x.train(0);
        x.fall(99);
        Due.is("down again", x.count(15), 1);
        Due.is("to none", x.train(Due.NONE), Due.NONE);
        Due.is("up again", x.count(15), 0);
    }

    private static void promise6() {
        Due.about("promise 6");
        GaleBridge x = new GaleBridge();
        int[][] wrong = {{-1, 0, 1, 1, 0}, {4, 0, 1, 1, 0}, {0, -1, 1, 1, 0}, {0, 5, 1, 1, 0}, {0, 0, 0, 1, 0},
            {0, 0, 1000, 1, 0}, {0, 0, 1, 0, 0}, {0, 0, 1, 10, 0}, {0, 0, 1, 1, -1}, {0, 0, 1, 1, 6}};
        for (int[] w : wrong) {
            Due.is("wrong", x.part(w[0], w[1], w[2], w[3], w[4]), Due.BAD);
        }
        Due.is("none came", x.count(2), 0);
        x.months(3, 0);
        for (int i = 0; i < 40; i++) {
            Due.is("part " + i, x.part(i % 4, i % 5, i + 960, 1 + i % 9, i % 6), i);
        }
        Due.is("one more", x.part(0, 0, 1, 1, 0), Due.FULL);
        Due.is("a piece more", x.piece(0, 0, 0), Due.FULL);
        Due.is("BAD comes first", x.part(4, 0, 1, 1, 0), Due.BAD);
        Due.is("count", x.count(2), 40);
        Due.is("month", x.told(39, 7), 3);
        Due.is("strength", x.told(39, 2), 999);
        Due.is("stands", x.told(39, 8), 1);
    }

    private static void promise7() {
        Due.about("promise 7");
        GaleBridge x = new GaleBridge();
        int[][] wrong = {{-1, 0, 0}, {5, 0, 0}, {0, -1, 0}, {0, 6, 0}, {0, 0, -1}, {0, 0, 2}};
        for (int[] w : wrong) {
            Due.is("wrong", x.piece(w[0], w[1], w[2]), Due.BAD);
        }
        x.months(2, 0);
        Due.is("piece", x.piece(4, 5, 1), 0);
        int[] told = {4, 4, 1, 1, 0, 0, 0, 2, 0, 5, 1, 0};
        for (int what = 0; what < told.length; what++) {
            Due.is("told " + what, x.told(0, what), told[what]);
        }
        for (int i = 1; i < 40; i++) {
            x.piece(0, 0, 0);
        }
        Due.is("full", x.piece(0, 0, 0), Due.FULL);
        Due.is("BAD comes first", x.piece(0, 6, 0), Due.BAD);
        Due.is("part", x.part(0, 0, 1, 1, 0), Due.FULL);
        Due.is("pieces", x.count(4), 40);
        Due.is("none is gone", x.count(3), 0);
    }

    private static void promise8() {
        Due.about("promise 8");
        GaleBridge x = new GaleBridge();
        x.months(4, 0);
        x.part(3, 2, 77, 8, 5);
        x.be(0, 4, 11);
        x.be(0, 5, 12);
        int[] told = {3, 2, 77, 8, 11, 12, 5, 4, 1, 0, 0, 0};
        for (int what = 0; what < told.length; what++) {
            Due.is("told " + what, x.told(0, what), told[what]);
        }
        Due.is("what", x.told(0, 12), Due.BAD);
        Due.is("what", x.told(0, -1), Due.BAD);
        Due.is("part", x.told(1, 0), Due.BAD);
        Due.is("part", x.told(-1, 0), Due.BAD);
        Due.is("part", x.told(Due.HIGH, Due.HIGH), Due.BAD);
        x.piece(0, 3, 1);
        x.find(1, 1);
        Due.is("found", x.told(1, 11), 1);
        x.span(1, 1, 99);
        x.span(2, 1, 99);
        x.fall(99);
        Due.is("gone", x.told(0, 8), 0);
    }

    private static void promise9() {
        Due.about("promise 9");
        GaleBridge x = new GaleBridge();
        for (int kind = 0; kind < 4; kind++) {
            x.part(kind, 0, 10 + kind, 1, 0);
        }
        x.piece(0, 0, 0);
        int k = Due.KIND;
        int[][] due = {{10, k, k, k, k}, {11, 11, k, k, k}, {12, k, 12, k, k}, {13, k, 13, 13, k}, {1, k, k, k, 1}};
        for (int part = 0; part < 5; part++) {
            for (int kind = 0; kind < 5; kind++) {
                Due.is("as(" + part + ", " + kind + ")", x.as(part, kind), due[part][kind]);
            }
        }
        Due.is("kind", x.as(0, 5), Due.BAD);
        Due.is("kind", x.as(0, -1), Due.BAD);
        Due.is("part", x.as(5, 0), Due.BAD);
        Due.is("part", x.as(-1, 0), Due.BAD);
    }

    private static void promise10() {
        Due.about("promise 10");
        GaleBridge x = new GaleBridge();
        x.part(0, 0, 1, 1, 0);
        x.piece(0, 0, 0);
        Due.is("flaw", x.be(0, 4, 99), 0);
        Due.is("flaw", x.be(0, 4, 0), 99);
        Due.is("slack", x.be(0, 5, 98), 0);
        Due.is("slack", x.be(0, 5, 3), 98);
        Due.is("told", x.told(0, 5), 3);
        Due.is("told", x.told(0, 4), 0);
        Due.is("piece", x.be(1, 4, 1), Due.KIND);
        Due.is("piece", x.be(1, 5, 1), Due.KIND);
        int[][] wrong = {{2, 4, 1}, {-1, 4, 1}, {0, 3, 1}, {0, 6, 1}, {0, 4, -1}, {0, 5, 100}, {1, 4, 100}, {1, 3, 1}};
        for (int[] w : wrong) {
            Due.is("wrong", x.be(w[0], w[1], w[2]), Due.BAD);
        }
    }

    private static void promise11() {
        Due.about("promise 11");
        GaleBridge x = new GaleBridge();
        x.part(1, 1, 1, 1, 0);
        x.part(1, 3, 999, 1, 0);
        x.piece(1, 0, 0);
        x.span(0, 1, 99);
        x.train(0);
        Due.is("falls", x.fall(20), 1);
        Due.is("down", x.count(1), 2);
        Due.is("train down", x.count(15), 1);
        Due.is("raise", x.raise(), 1);
        Due.is("down", x.count(1), 0);
        Due.is("gone", x.count(3), 0);
        Due.is("train", x.count(15), 0);
        Due.is("stands", x.told(0, 8), 1);
        Due.is("a piece does not stand", x.told(2, 8), 0);
        x.train(2);
        Due.is("raise", x.raise(), 0);
        Due.is("train on none", x.count(14), Due.NONE);
    }

    private static void promise12() {
        Due.about("promise 12");
        GaleBridge x = new GaleBridge();
        x.spans(2);
        x.span(0, 1, 20);
        x.span(1, 1, 3);
        x.span(1, 0, 1);
        Due.is("left end", x.pull(0, 30), 30 * 20 - 100);
        Due.is("between", x.pull(1, 30), 30 * 23 - 110);
        Due.is("right end", x.pull(2, 30), 30 * 3 - 10);
        Due.is("0 at least", x.pull(1, 4), 0);
        Due.is("just 0", x.pull(0, 5), 0);
        Due.is("just above", x.pull(0, 6), 20);
        x.span(-1, 0, 2);
        x.span(-1, 1, 99);
        Due.is("train on none", x.pull(1, 30), 580);
        x.train(1);
        Due.is("train not here", x.pull(0, 30), 500);
        Due.is("train here", x.pull(1, 30), 30 * 122 - 130);
        Due.is("train here too", x.pull(2, 99), 99 * 102 - 30);
        Due.is("wrong", x.pull(3, 1), Due.BAD);
        Due.is("wrong", x.pull(-1, 1), Due.BAD);
        Due.is("wrong", x.pull(0, 100), Due.BAD);
        Due.is("wrong", x.pull(0, -1), Due.BAD);
        x.part(0, 2, 1, 1, 0);
        x.fall(30);
        Due.is("a span that is down, and a train", x.pull(1, 30), 500);
        Due.is("none is up", x.pull(2, 99), 0);
        GaleBridge y = new GaleBridge();
        y.spans(12);
        y.span(11, 1, 99);
        Due.is("the last pier of all", y.pull(12, 99), 99 * 99 - 100);
        y.part(0, 12, 1, 1, 0);
        y.train(11);
        Due.is("falls", y.fall(99), 1);
        Due.is("its span", y.has(11, 2), 1);
        Due.is("the one ahead of it", y.has(10, 2), 0);
    }

    private static void promise13() {
        Due.about("promise 13");
        GaleBridge x = new GaleBridge();
        x.part(1, 0, 999, 2, 0);
        x.part(2, 0, 999, 5, 0);
        x.part(2, 1, 999, 9, 0);
        x.piece(0, 0, 0);
        x.span(0, 1, 99);
        x.span(0, 0, 0);
        Due.is("2 by 7", x.load(0, 50), 4950 * 2 / 7);
        Due.is("5 by 7", x.load(1, 50), 4950 * 5 / 7);
        Due.is("alone", x.load(2, 50), 50 * 109 - 100);
        Due.is("none", x.load(0, 0), 0);
        Due.is("a piece", x.load(3, 1), Due.NO);
        Due.is("wrong", x.load(4, 1), Due.BAD);
        Due.is("wrong", x.load(-1, 1), Due.BAD);
        Due.is("wrong", x.load(3, 100), Due.BAD);
        Due.is("wrong", x.load(0, -1), Due.BAD);
        x.be(1, 5, 99);
        Due.is("goes", x.fall(5), 1);
        Due.is("shares of those that stand", x.load(0, 50), 4950);
        Due.is("gone", x.load(1, 50), Due.NO);
        x.part(0, 4, 1, 1, 0);
        Due.is("the only share", x.load(4, 50), 400);
    }

    private static void promise14() {
        Due.about("promise 14");
        GaleBridge x = new GaleBridge();
        for (int kind = 0; kind < 4; kind++) {
            x.part(kind, 0, 7, 1, 0);
            x.be(kind, 4, 30);
            x.be(kind, 5, 40);
        }
        x.piece(0, 0, 0);
        Due.is("part", x.bears(0), 70000);
        Due.is("column", x.bears(1), 7 * 70 * 100);
        Due.is("tie", x.bears(2), 7 * 60 * 100);
        Due.is("lug", x.bears(3), 7 * 60 * 70);
        Due.is("piece", x.bears(4), 10000);
        Due.is("wrong", x.bears(5), Due.BAD);
        Due.is("wrong", x.bears(-1), Due.BAD);
        x.part(3, 0, 1, 1, 0);
        x.be(5, 4, 99);
        x.be(5, 5, 99);
        Due.is("the least", x.bears(5), 1);
        x.part(3, 0, 999, 1, 0);
        Due.is("the most", x.bears(6), 9990000);
    }

    private static void promise15() {
        Due.about("promise 15");
        GaleBridge x = new GaleBridge();
        Due.is("no part", x.first(99), Due.NONE);
        x.spans(2);
        x.span(0, 0, 0);
        x.span(1, 0, 0);
        x.part(0, 0, 100, 1, 0);
        x.part(0, 2, 50, 1, 0);
        x.part(1, 2, 100, 2, 0);
        Due.is("load is as much as bears: not over", x.first(10), Due.NONE);
        x.span(0, 1, 11);
        Due.is("just over", x.first(10), 0);
        x.span(1, 1, 30);
        Due.is("the greatest of all piers, of several the least number", x.first(10), 1);
        x.be(2, 4, 1);
        Due.is("a little greater", x.first(10), 2);
        x.be(2, 4, 0);
        x.span(0, 1, 20);
        Due.is("across piers, one and the same: 2 by 1", x.first(10), 0);
        Due.is("wrong", x.first(100), Due.BAD);
        Due.is("wrong", x.first(-1), Due.BAD);
        Due.is("nothing went", x.count(3), 0);
        GaleBridge z = new GaleBridge();
        z.part(0, 0, 100, 3, 0);
        z.part(0, 0, 50, 1, 0);
        z.span(0, 0, 0);
        z.span(0, 1, 99);
        Due.is("3 by 100 is more than 1 by 50", z.first(99), 0);
        GaleBridge y = new GaleBridge();
        y.part(0, 0, 1, 3, 0);
        y.part(0, 0, 999, 7, 0);
        y.span(0, 0, 0);
        y.span(0, 1, 1);
        Due.is("9 tenths", y.first(3), Due.NONE);
        Due.is("a share is not cut: 12 tenths", y.first(4), 0);
    }

    private static void promise16() {
        Due.about("promise 16");
        GaleBridge x = new GaleBridge();
        x.spans(3);
        for (int span = 0; span < 3; span++) {
            x.span(span, 0, 0);
        }
        x.part(0, 1, 150, 1, 0);
        x.part(0, 1, 150, 1, 0);
        x.part(0, 2, 399, 1, 0);
        x.part(0, 3, 1, 1, 0);
        x.span(2, 1, 0);
        Due.is("wrong", x.fall(100), Due.BAD);
        Due.is("wrong", x.fall(-1), Due.BAD);
        Due.is("none goes", x.fall(15), 0);
        x.train(1);
        Due.is("both go, the first leaves all to the other", x.fall(16), 2);
        Due.is("span 0", x.has(0, 2), 1);
        Due.is("span 1", x.has(1, 2), 1);
        Due.is("span 2", x.has(2, 2), 0);
        Due.is("train", x.count(15), 1);
        Due.is("gone", x.count(3), 2);
        Due.is("no more", x.fall(99), 0);
        Due.is("stays so", x.told(0, 8), 0);
        x.part(0, 1, 1, 1, 0);
        Due.is("a new one stands", x.told(4, 8), 1);
        Due.is("no pull there", x.fall(99), 0);
    }

    private static void promise16FallsOn() {
        Due.about("promise 16, on and on");
        GaleBridge x = new GaleBridge();
        x.spans(2);
        x.span(0, 0, 99);
        x.span(0, 1, 1);
        x.span(1, 0, 0);
        x.span(1, 1, 20);
        x.part(0, 0, 1, 1, 0);
        x.part(0, 1, 500, 1, 0);
        x.part(0, 2, 500, 1, 0);
        Due.is("a heavy span holds its pier down", x.pull(1, 30), 0);
        Due.is("over at the other", x.fall(30), 1);
        Due.is("down", x.has(1, 2), 1);
        Due.is("up", x.has(0, 2), 0);
        x.raise();
        x.span(0, 1, 99);
        x.part(0, 0, 1, 1, 0);
        Due.is("pulls", x.pull(0, 20), 990);
        Due.is("one by one", x.next(20, 0), 0);
        Due.is("one by one", x.next(20, 1), 3);
        Due.is("two at the end", x.fall(20), 2);
        Due.is("span 0", x.has(0, 2), 1);
        Due.is("span 1", x.has(1, 2), 0);
        Due.is("with that one down the next pier pulls", x.pull(1, 30), 600);
        Due.is("and goes, of two alike the first, which frees the other", x.fall(30), 1);
        Due.is("the other stands", x.told(2, 8), 1);
        Due.is("all down", x.count(1), 2);
    }

    private static void promise17() {
        Due.about("promise 17");
        GaleBridge x = new GaleBridge();
        x.part(0, 0, 5, 1, 0);
        x.part(0, 0, 4, 1, 0);
        x.part(0, 4, 3, 1, 0);
        x.train(0);
        int[] order = {2, 1, 0};
        for (int i = 0; i < 3; i++) {
            Due.is("next " + i, x.next(99, i), order[i]);
        }
        Due.is("no more", x.next(99, 3), Due.NONE);
        Due.is("far", x.next(99, Due.HIGH), Due.NONE);
        Due.is("wrong", x.next(99, -1), Due.BAD);
        Due.is("wrong", x.next(100, 0), Due.BAD);
        Due.is("wrong", x.next(-1, 0), Due.BAD);
        Due.is("none at a breeze", x.next(10, 0), Due.NONE);
        Due.is("all is as before", x.count(3), 0);
        Due.is("all is as before", x.count(1), 0);
        Due.is("all is as before", x.count(14), 0);
        Due.is("and falls so", x.fall(99), 3);
        GaleBridge y = new GaleBridge();
        y.span(0, 0, 0);
        y.part(2, 0, 100, 1, 0);
        y.part(3, 0, 100, 1, 0);
        y.part(1, 0, 100, 1, 0);
        y.be(0, 5, 10);
        y.be(1, 4, 20);
        y.be(2, 4, 15);
        int[] kinds = {1, 2, 0};
        for (int i = 0; i < 3; i++) {
            Due.is("by kinds " + i, y.next(99, i), kinds[i]);
        }
    }

    private static void promise18() {
        Due.about("promise 18");
        GaleBridge x = new GaleBridge();
        Due.is("no part", x.safe(), 99);
        x.part(0, 0, 40, 1, 0);
        Due.is("40 and 100 by 10", x.safe(), 14);
        Due.is("holds at it", x.first(14), Due.NONE);
        Due.is("goes above it", x.first(15), 0);
        x.part(0, 4, 33, 1, 0);
        Due.is("the least of all", x.safe(), 13);
        x.span(0, 1, 0);
        x.span(3, 1, 0);
        Due.is("no sail", x.safe(), 99);
        x.span(3, 0, 0);
        x.span(3, 1, 99);
        Due.is("0 is always safe", x.safe(), 0);
        x.fall(1);
        Due.is("what is gone is not over", x.safe(), 99);
        x.span(0, 1, 99);
        x.span(0, 0, 99);
        x.part(0, 0, 999, 1, 0);
        Due.is("shares", x.safe(), (40 * 2 + 990) / 99);
        GaleBridge y = new GaleBridge();
        y.part(2, 0, 100, 1, 0);
        y.part(2, 0, 100, 1, 0);
        y.be(1, 5, 99);
        Due.is("2 and 100 by 10", y.safe(), 10);
        Due.is("it goes", y.fall(11), 1);
        Due.is("gone, the other bears all: 100 and 100 by 10", y.safe(), 20);
    }
}
