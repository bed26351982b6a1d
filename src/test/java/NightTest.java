/** Promises 25 to 32: months and the night. */
public final class NightTest {
    public static void main(String[] args) {
        promise25();
        promise25Mends();
        promise26();
        promise27();
        promise28();
        promise29();
        promise30();
        promise30Train();
        promise31();
        promise32();
        Due.end("NightTest");
    }

    private static void promise25() {
        Due.about("promise 25");
        GaleBridge x = new GaleBridge();
        int[][] wrong = {{0, 0}, {61, 0}, {-1, 0}, {1, -1}, {1, 1000}, {Due.HIGH, 0}, {Due.LOW, 0}};
        for (int[] w : wrong) {
            Due.is("wrong", x.months(w[0], w[1]), Due.BAD);
        }
        for (int kind = 0; kind < 4; kind++) {
            x.part(kind, 0, 999, 1, 0);
        }
        x.piece(0, 0, 0);
        Due.is("a month", x.months(1, 39), 1);
        int[] slack = {0, 0, 1, 1, 0};
        for (int part = 0; part < 5; part++) {
            Due.is("5 times 39 by 100, of ties and lugs", x.told(part, 5), slack[part]);
        }
        Due.is("each month is cut by itself", x.months(3, 39), 4);
        Due.is("slack", x.told(2, 5), 4);
        Due.is("a busy month", x.months(1, 999), 5);
        Due.is("slack", x.told(3, 5), 53);
        x.months(1, 999);
        Due.is("99 at most", x.told(3, 5), 99);
        x.months(1, 0);
        Due.is("no trains", x.told(2, 5), 99);
        for (int i = 0; i < 9; i++) {
            x.months(60, 0);
        }
        Due.is("month", x.count(13), 547);
        Due.is("too far", x.months(53, 0), Due.FULL);
        Due.is("BAD comes first", x.months(61, 0), Due.BAD);
        Due.is("month", x.count(13), 547);
        Due.is("just there", x.months(52, 0), 599);
        Due.is("no more", x.months(1, 0), Due.FULL);
    }

    private static void promise25Mends() {
        Due.about("promise 25, mended");
        GaleBridge x = new GaleBridge();
        x.spans(2);
        x.part(2, 0, 999, 1, 0);
        x.part(3, 0, 999, 1, 0);
        x.part(1, 0, 999, 1, 0);
        x.part(2, 2, 1, 1, 0);
        x.be(0, 4, 7);
        x.be(1, 4, 8);
        x.be(2, 5, 60);
        x.be(3, 5, 60);
        x.span(1, 1, 99);
        x.fall(99);
        Due.is("one is gone", x.count(3), 1);
        Due.text(x, "mend s>9&f<8", 0);
        x.months(1, 200);
        Due.is("mended by the slack of this month", x.told(0, 5), 0);
        Due.is("flaw as it was", x.told(0, 4), 7);
        Due.is("a flaw too great", x.told(1, 5), 10);
        Due.is("a column is mended", x.told(2, 5), 0);
        Due.is("a gone one is not shaken, nor mended", x.told(3, 5), 60);
        Due.text(x, "mend k=3", 2);
        x.months(1, 200);
        Due.is("the text of the month that goes by", x.told(1, 5), 20);
        Due.is("of that one", x.told(0, 5), 0);
        x.months(1, 200);
        Due.is("then the next text", x.told(1, 5), 0);
        Due.is("only that one", x.told(0, 5), 10);
    }

    private static void promise26() {
        Due.about("promise 26");
        GaleBridge x = new GaleBridge();
        Due.is("shake", x.shake(99), 5);
        Due.is("shake", x.shake(0), 99);
        Due.is("wrong", x.shake(-1), Due.BAD);
        Due.is("wrong", x.shake(100), Due.BAD);
        x.part(2, 0, 1, 1, 0);
        x.months(1, 999);
        Due.is("no shaking", x.told(0, 5), 0);
        Due.is("shake", x.shake(7), 0);
        x.months(1, 100);
        Due.is("7", x.told(0, 5), 7);
    }

    private static void promise27() {
        Due.about("promise 27");
        GaleBridge x = new GaleBridge();
        for (int kind = 0; kind < 4; kind++) {
            x.part(kind, 0, 1, 1, 0);
        }
        x.piece(0, 0, 0);
        Due.is("part", x.trust(0, 100), Due.KIND);
        Due.is("column", x.trust(1, 100), Due.KIND);
        Due.is("piece", x.trust(4, 100), Due.KIND);
        Due.is("tie: 5 a month", x.trust(2, 100), 9);
        Due.is("lug", x.trust(3, 100), 9);
        Due.is("4 a month", x.trust(2, 99), 12);
        Due.is("in the first one", x.trust(2, 999), 1);
        Due.is("never", x.trust(2, 19), Due.NONE);
        Due.is("1 a month", x.trust(2, 20), 49);
        Due.is("wrong", x.trust(2, 1000), Due.BAD);
        Due.is("wrong", x.trust(2, -1), Due.BAD);
        Due.is("wrong", x.trust(5, 1), Due.BAD);
        Due.is("BAD comes first", x.trust(0, -1), Due.BAD);
        x.be(2, 5, 50);
        Due.is("it is so already", x.trust(2, 0), 0);
        x.be(2, 5, 49);
        Due.is("not yet", x.trust(2, 0), Due.NONE);
        Due.is("soon", x.trust(2, 20), 0);
        x.be(2, 5, 0);
        Due.text(x, "mend 1", 0);
        Due.is("nothing being mended", x.trust(2, 100), 9);
        x.span(0, 1, 99);
        x.fall(99);
        Due.is("gone", x.told(2, 8), 0);
        Due.is("as if it stood", x.trust(2, 100), 9);
        for (int i = 0; i < 9; i++) {
            x.months(60, 0);
        }
        x.months(59, 0);
        Due.is("above 599", x.trust(3, 20), 648);
    }

    private static void promise28() {
        Due.about("promise 28");
        GaleBridge x = new GaleBridge();
        Due.is("gust", x.gust(0, 99), 0);
        Due.is("gust", x.gust(59, 7), 0);
        Due.is("gust", x.gust(59, 0), 7);
        Due.is("gust", x.gust(0, 0), 99);
        int[][] wrong = {{-1, 0}, {60, 0}, {0, -1}, {0, 100}, {Due.NONE, 0}};
        for (int[] w : wrong) {
            Due.is("wrong", x.gust(w[0], w[1]), Due.BAD);
        }
    }

    private static void promise29() {
        Due.about("promise 29");
        GaleBridge x = new GaleBridge();
        int[][] wrong = {{-1, 1}, {60, 1}, {0, 0}, {0, 21}, {0, -1}, {Due.NONE, 0}, {Due.NONE, 21}};
        for (int[] w : wrong) {
            Due.is("wrong", x.runs(w[0], w[1]), Due.BAD);
        }
        x.night(59);
        Due.is("it does not come", x.count(14), Due.NONE);
        Due.is("runs", x.runs(59, 20), 1);
        x.night(58);
        Due.is("not yet", x.count(14), Due.NONE);
        x.night(59);
        Due.is("there", x.count(14), 0);
        Due.is("runs", x.runs(0, 1), 1);
        x.night(59);
        Due.is("59 by 20", x.count(14), 2);
        Due.is("runs not", x.runs(Due.NONE, 20), 1);
        x.night(59);
        Due.is("none", x.count(14), Due.NONE);
    }

    private static void promise30() {
        Due.about("promise 30");
        GaleBridge x = new GaleBridge();
        Due.is("wrong", x.night(-1), Due.BAD);
        Due.is("wrong", x.night(60), Due.BAD);
        x.part(0, 0, 100, 1, 0);
        x.part(0, 4, 200, 1, 0);
        x.gust(3, 21);
        x.gust(5, 31);
        Due.is("till 2", x.night(2), 0);
        Due.is("till 3", x.night(3), 1);
        Due.is("what is gone stays so", x.night(2), 1);
        Due.is("till 4", x.night(4), 1);
        Due.is("till 5", x.night(5), 2);
        Due.is("down", x.count(1), 2);
        x.train(1);
        x.night(0);
        Due.is("the train is on none as the night begins", x.count(14), Due.NONE);
        x.raise();
        Due.is("all the night", x.night(59), 2);
    }

    private static void promise30Train() {
        Due.about("promise 30, the train");
        GaleBridge x = new GaleBridge();
        x.spans(3);
        x.runs(2, 10);
        int[] on = {Due.NONE, Due.NONE, 0, 0, 1, 1, 2, 2, Due.NONE, Due.NONE};
        for (int s = 0; s < on.length; s++) {
            x.night(s);
            Due.is("in second " + s, x.count(14), on[s]);
            Due.is("up in second " + s, x.count(15), 0);
        }
        x.part(0, 3, 1, 1, 0);
        x.gust(0, 50);
        x.night(5);
        Due.is("ahead of the one that is down", x.count(14), 1);
        x.night(6);
        Due.is("it comes where that is down", x.count(15), 1);
        Due.is("on none", x.count(14), Due.NONE);
        x.night(59);
        Due.is("and stays so", x.count(15), 1);
        x.night(0);
        Due.is("as the night begins it is up", x.count(15), 0);
        x.raise();
        x.gust(0, 0);
        x.gust(7, 50);
        x.night(7);
        Due.is("it falls with its span", x.count(15), 1);
        x.raise();
        x.gust(7, 0);
        x.gust(8, 50);
        Due.is("it is over", x.night(8), 1);
        Due.is("up", x.count(15), 0);
        x.raise();
        x.runs(Due.NONE, 10);
        x.train(2);
        x.night(59);
        Due.is("no train", x.count(15), 0);
        Due.is("the span", x.has(2, 2), 1);
        GaleBridge y = new GaleBridge();
        y.span(-1, 1, 50);
        y.part(0, 1, 300, 1, 0);
        for (int s = 0; s < 60; s++) {
            y.gust(s, 20);
        }
        y.runs(10, 20);
        Due.is("no fall without it", y.night(9), 0);
        Due.is("with it", y.night(10), 1);
        Due.is("down", y.count(15), 1);
    }

    private static void promise31() {
        Due.about("promise 31");
        GaleBridge x = new GaleBridge();
        x.span(0, 0, 0);
        x.part(0, 0, 100, 1, 0);
        Due.is("at 10: just not over", x.judged(0), 0);
        x.span(0, 1, 11);
        Due.is("at 10: over", x.judged(0), 1);
        Due.is("elsewhere not", x.judged(1), 0);
        Due.is("wrong", x.judged(5), Due.BAD);
        Due.is("wrong", x.judged(-1), Due.BAD);
        Due.text(x, "wind 9-p-m", 0);
        Due.is("at 9", x.judged(0), 0);
        x.part(0, 1, 1, 1, 0);
        x.part(0, 4, 1, 1, 0);
        x.span(1, 0, 0);
        Due.is("at 8", x.judged(1), 1);
        x.months(8, 0);
        Due.is("at 0", x.judged(1), 0);
        Due.text(x, "wind 0-1", 1);
        Due.is("held at 0", x.judged(1), 0);
        Due.text(x, "wind 9999", 2);
        x.span(0, 1, 1);
        Due.is("held at 99: just not over", x.judged(0), 0);
        x.span(0, 1, 2);
        Due.is("held at 99: over", x.judged(0), 1);
        x.fall(99);
        Due.is("gone", x.judged(0), 0);
    }

    private static void promise32() {
        Due.about("promise 32");
        GaleBridge x = new GaleBridge();
        Due.is("as fast as it may", x.fast(99, 0), 0);
        Due.is("above", x.fast(100, 99), 1);
        Due.is("most", x.fast(999, 0), 1);
        int[][] wrong = {{-1, 0}, {1000, 0}, {0, -1}, {0, 100}};
        for (int[] w : wrong) {
            Due.is("wrong", x.fast(w[0], w[1]), Due.BAD);
        }
        x.span(-1, 0, 20);
        Due.text(x, "speed 60-w-g", 0);
        Due.is("40 less 10", x.fast(30, 10), 0);
        Due.is("above", x.fast(31, 10), 1);
        Due.is("not held", x.fast(0, 41), 1);
        Due.is("not held", x.fast(0, 40), 0);
    }
}
