/** Promises 33 to 48: stories, flaws, words, tickets and times. */
public final class StoryTest {
    public static void main(String[] args) {
        promise33();
        promise34();
        promise35();
        promise36();
        promise37();
        promise38();
        promise39();
        promise40();
        promise41();
        promise42();
        promise43();
        promise44();
        promise45();
        promise46();
        promise47();
        promise48();
        Due.end("StoryTest");
    }

    private static void promise33() {
        Due.about("promise 33");
        GaleBridge x = new GaleBridge();
        Due.is("story", x.story(7, 1, 0), 63);
        Due.is("story", x.story(7, 1, 63), 0);
        Due.is("story", x.story(7, 0, 5), 63);
        Due.is("story", x.story(7, 0, 6), 5);
        int[][] wrong = {{-1, 0, 0}, {8, 0, 0}, {0, -1, 0}, {0, 2, 0}, {0, 0, -1}, {0, 0, 64}};
        for (int[] w : wrong) {
            Due.is("wrong", x.story(w[0], w[1], w[2]), Due.BAD);
        }
    }

    private static void promise34() {
        Due.about("promise 34");
        GaleBridge x = new GaleBridge();
        x.piece(0, 0, 0);
        x.part(1, 0, 1, 1, 0);
        Due.is("find", x.find(0, 1), 0);
        Due.is("find", x.find(0, 1), 1);
        Due.is("found", x.count(5), 1);
        Due.is("find", x.find(0, 0), 1);
        Due.is("found", x.count(5), 0);
        Due.is("no piece", x.find(1, 0), Due.KIND);
        int[][] wrong = {{-1, 0}, {2, 0}, {0, -1}, {0, 2}, {1, 2}};
        for (int[] w : wrong) {
            Due.is("wrong", x.find(w[0], w[1]), Due.BAD);
        }
    }

    private static void promise35() {
        Due.about("promise 35");
        GaleBridge x = new GaleBridge();
        Due.is("all fit", x.fits(), 255);
        x.piece(0, 5, 1);
        x.piece(3, 0, 0);
        x.story(0, 1, 31);
        x.story(1, 0, 62);
        x.story(7, 1, 0);
        x.story(6, 0, 1);
        x.story(6, 1, 32);
        Due.is("nothing found", x.fits(), 255);
        x.find(0, 1);
        Due.is("one found", x.fits(), 255 - 1 - 128);
        x.find(1, 1);
        Due.is("both found", x.fits(), 255 - 1 - 128 - 2);
        x.find(0, 0);
        Due.is("the other", x.fits(), 255 - 2);
    }

    private static void promise36() {
        Due.about("promise 36");
        GaleBridge x = new GaleBridge();
        Due.is("none", x.best(), Due.NONE);
        x.part(1, 0, 1, 1, 0);
        Due.is("none", x.best(), Due.NONE);
        x.piece(0, 0, 0);
        x.piece(0, 0, 1);
        x.piece(0, 3, 1);
        Due.is("of several the least number", x.best(), 1);
        x.story(0, 1, 1);
        x.story(1, 1, 2);
        Due.is("at most 7 on side 1", x.best(), 2);
        x.story(2, 0, 1);
        x.story(3, 0, 2);
        x.story(4, 0, 4);
        Due.is("at most 6 on side 0", x.best(), 1);
        x.story(2, 0, 63);
        x.find(2, 1);
        Due.is("of those that still fit 6 at most on side 0, 7 on side 1", x.best(), 1);
        x.find(1, 1);
        Due.is("the last one", x.best(), 3);
        x.find(3, 1);
        Due.is("all found", x.best(), Due.NONE);
        GaleBridge y = new GaleBridge();
        y.piece(0, 0, 0);
        y.piece(0, 0, 1);
        for (int i = 0; i < 8; i++) {
            y.story(i, 1, 0);
        }
        Due.is("no story lets any", y.best(), 1);
        for (int i = 1; i < 8; i++) {
            y.story(i, 0, 0);
        }
        Due.is("none is less than one", y.best(), 1);
        y.story(0, 0, 0);
        Due.is("alike: the least number", y.best(), 0);
        y.story(0, 0, 1);
        y.story(1, 0, 1);
        y.story(2, 1, 2);
        Due.is("two for break 0 on side 0, one on side 1", y.best(), 1);
    }

    private static void promise37() {
        Due.about("promise 37");
        GaleBridge x = new GaleBridge();
        x.part(0, 0, 1, 1, 2);
        x.part(1, 1, 1, 1, 2);
        x.part(2, 0, 1, 1, 3);
        x.months(1, 0);
        x.part(3, 0, 1, 1, 2);
        x.piece(0, 0, 0);
        x.part(2, 0, 1, 1, 0);
        for (int part : new int[] {0, 1, 2, 3, 5}) {
            Due.is("no flaw", x.doubt(part), 0);
        }
        x.be(0, 4, 1);
        int[] due = {2, 1, 0, 0, Due.KIND, 0};
        for (int part = 0; part < due.length; part++) {
            Due.is("doubt " + part, x.doubt(part), due[part]);
        }
        x.be(0, 4, 0);
        x.be(0, 5, 9);
        Due.is("slack is no flaw", x.doubt(1), 0);
        x.be(3, 4, 99);
        Due.is("of another month", x.doubt(0), 0);
        Due.is("wrong", x.doubt(6), Due.BAD);
        Due.is("wrong", x.doubt(-1), Due.BAD);
    }

    private static void promise38() {
        Due.about("promise 38");
        GaleBridge x = new GaleBridge();
        Due.is("none", x.flawed(0), 0);
        Due.is("none", x.flawed(1), 0);
        for (int i = 0; i < 6; i++) {
            x.part(i % 4, 0, 1, 1, i / 3);
        }
        x.piece(0, 0, 0);
        x.be(1, 4, 5);
        x.be(2, 4, 5);
        Due.is("told", x.flawed(0), 2);
        Due.is("at most", x.flawed(1), 3);
        x.be(5, 4, 1);
        Due.is("told", x.flawed(0), 3);
        Due.is("at most", x.flawed(1), 6);
        Due.is("wrong", x.flawed(2), Due.BAD);
        Due.is("wrong", x.flawed(-1), Due.BAD);
    }

    private static void promise39() {
        Due.about("promise 39");
        GaleBridge x = new GaleBridge();
        int[][] wrong = {{-1, 0, 1, 0}, {10000, 0, 1, 0}, {0, -1, 1, 0}, {0, 8, 1, 0}, {0, 0, -1, 0}, {0, 0, 8, 0},
            {0, 3, 3, 0}, {0, 0, 1, -1}, {0, 0, 1, 10}};
        for (int[] w : wrong) {
            Due.is("wrong", x.word(w[0], w[1], w[2], w[3]), Due.BAD);
        }
        for (int i = 0; i < 30; i++) {
            Due.is("word", x.word(9999 - i, 0, 7, 9), i);
        }
        Due.is("full", x.word(0, 0, 1, 0), Due.FULL);
        Due.is("BAD comes first", x.word(0, 1, 1, 0), Due.BAD);
        Due.is("words", x.count(7), 30);
    }

    private static void promise40() {
        Due.about("promise 40");
        GaleBridge x = new GaleBridge();
        Due.is("saw", x.saw(7, 9, 9999), 9999);
        Due.is("saw", x.saw(7, 9, 50), 50);
        Due.is("saw", x.saw(7, 9, 51), 50);
        Due.is("saw", x.saw(7, 9, 0), 0);
        Due.is("another office", x.saw(6, 9, 77), 77);
        Due.is("another matter", x.saw(7, 8, 78), 78);
        int[][] wrong = {{-1, 0, 0}, {8, 0, 0}, {0, -1, 0}, {0, 10, 0}, {0, 0, -1}, {0, 0, 10000}};
        for (int[] w : wrong) {
            Due.is("wrong", x.saw(w[0], w[1], w[2]), Due.BAD);
            Due.is("wrong", x.knew(w[0], w[1], w[2]), Due.BAD);
        }
    }

    private static void promise41() {
        Due.about("promise 41");
        GaleBridge x = new GaleBridge();
        Due.is("not on the last day", x.knew(0, 0, 9999), 0);
        x.saw(0, 1, 10);
        Due.is("ahead", x.knew(0, 1, 9), 0);
        Due.is("on the day", x.knew(0, 1, 10), 1);
        Due.is("another matter", x.knew(0, 2, 10), 0);
        x.word(20, 2, 3, 1);
        x.word(20, 1, 2, 1);
        x.word(15, 0, 1, 1);
        x.word(20, 2, 4, 1);
        x.word(9, 0, 5, 1);
        x.word(12, 0, 6, 2);
        Due.is("told ahead of the day", x.knew(1, 1, 14), 0);
        Due.is("told on the day", x.knew(1, 1, 15), 1);
        Due.is("told on from it", x.knew(2, 1, 20), 1);
        Due.is("told not yet", x.knew(2, 1, 19), 0);
        Due.is("a word of that day with a lesser number", x.knew(3, 1, 9999), 0);
        Due.is("a word of that day with a greater number", x.knew(4, 1, 20), 1);
        Due.is("told by one who did not know yet", x.knew(5, 1, 9999), 0);
        Due.is("told of another matter", x.knew(6, 1, 9999), 0);
        Due.is("nor of that one", x.knew(6, 2, 9999), 0);
        x.saw(2, 1, 20);
        Due.is("seen on the day of the word", x.knew(3, 1, 20), 1);
        x.saw(7, 3, 0);
        x.word(0, 7, 0, 3);
        Due.is("day 0", x.knew(0, 3, 0), 1);
        x.saw(4, 5, 0);
        x.word(8, 5, 6, 5);
        x.word(7, 4, 5, 5);
        x.word(6, 4, 7, 5);
        for (int office = 4; office < 8; office++) {
            Due.is("told the other way round " + office, x.knew(office, 5, 8), 1);
        }
    }

    private static void promise42() {
        Due.about("promise 42");
        GaleBridge x = new GaleBridge();
        Due.is("none", x.blind(9), 0);
        Due.is("wrong", x.blind(10), Due.BAD);
        Due.is("wrong", x.blind(-1), Due.BAD);
        x.word(5, 1, 2, 0);
        x.word(5, 0, 1, 0);
        x.word(5, 1, 3, 0);
        x.word(4, 0, 1, 0);
        x.word(9999, 3, 4, 0);
        x.word(7, 0, 1, 1);
        Due.is("all", x.blind(0), 5);
        x.saw(0, 0, 5);
        Due.is("number 0 and number 3", x.blind(0), 2);
        x.saw(0, 0, 4);
        Due.is("none", x.blind(0), 0);
        Due.is("another", x.blind(1), 1);
        x.saw(0, 2, 0);
        x.word(1, 0, 1, 2);
        x.word(1, 0, 2, 2);
        x.word(1, 1, 3, 2);
        x.word(1, 2, 3, 2);
        Due.is("who has heard knows on", x.blind(2), 0);
    }

    private static void promise43() {
        Due.about("promise 43");
        GaleBridge x = new GaleBridge();
        x.saw(0, 0, 1);
        x.saw(7, 0, 2);
        x.word(3, 7, 5, 0);
        x.saw(1, 4, 0);
        Due.is("none must", x.must(0, 9), 0);
        Due.text(x, "tell o>0&x<4", 0);
        Due.is("day 1", x.must(0, 1), 0);
        Due.is("day 2", x.must(0, 2), 128);
        Due.is("day 3", x.must(0, 3), 128 + 32);
        Due.is("matter 4", x.must(4, 3), 0);
        Due.text(x, "tell 0-1", 1);
        Due.is("not yet", x.must(4, 3), 0);
        x.months(1, 0);
        Due.is("what is not 0", x.must(4, 3), 2);
        Due.is("all that knew", x.must(0, 9999), 1 + 32 + 128);
        int[][] wrong = {{-1, 0}, {10, 0}, {0, -1}, {0, 10000}};
        for (int[] w : wrong) {
            Due.is("wrong", x.must(w[0], w[1]), Due.BAD);
        }
    }

    private static void promise44() {
        Due.about("promise 44");
        GaleBridge x = new GaleBridge();
        int[][] wrong = {{-1, 0, 0}, {1000, 0, 0}, {0, -1, 0}, {0, 1000, 0}, {0, 0, -1}, {0, 0, 1000}};
        for (int[] w : wrong) {
            Due.is("wrong", x.station(w[0], w[1], w[2]), Due.BAD);
        }
        for (int i = 0; i < 8; i++) {
            Due.is("station", x.station(999, 999, 999), i);
        }
        Due.is("full", x.station(0, 0, 0), Due.FULL);
        Due.is("BAD comes first", x.station(1000, 0, 0), Due.BAD);
        Due.is("stations", x.count(8), 8);
        Due.is("most", x.aboard(1), 8 * 3 * 999);
    }

    private static void promise45() {
        Due.about("promise 45");
        GaleBridge x = new GaleBridge();
        Due.is("least", x.aboard(0), 0);
        Due.is("most", x.aboard(1), 0);
        x.station(10, 20, 30);
        x.station(1, 2, 4);
        Due.is("least", x.aboard(0), 11);
        Due.is("most", x.aboard(1), 67);
        Due.is("wrong", x.aboard(2), Due.BAD);
        Due.is("wrong", x.aboard(-1), Due.BAD);
    }

    private static void promise46() {
        Due.about("promise 46");
        GaleBridge x = new GaleBridge();
        int[][] wrong = {{-1, 0, 1, 1}, {0, 0, 1000, 1}, {1000, 0, 1000, 1}, {5, 0, 4, 1}, {0, -1, 1, 1}, {0, 0, 1, 100000},
            {0, 5, 1, 5}, {0, 5, 1, 4}, {0, 100000, 1, 100001}};
        for (int[] w : wrong) {
            Due.is("wrong", x.time(w[0], w[1], w[2], w[3]), Due.BAD);
        }
        for (int i = 0; i < 16; i++) {
            Due.is("time", x.time(0, 0, 999, 99999), i);
        }
        Due.is("full", x.time(999, 99998, 999, 99999), Due.FULL);
        Due.is("BAD comes first", x.time(0, 1, 1, 1), Due.BAD);
        Due.is("times", x.count(9), 16);
    }

    private static void promise47() {
        Due.about("promise 47");
        GaleBridge x = new GaleBridge();
        x.time(0, 0, 999, 1);
        x.time(5, 10, 5, 11);
        x.time(1, 100, 3, 107);
        x.time(0, 0, 1, 3601);
        x.time(999, 99998, 999, 99999);
        int[] due = {3596400, 0, 7200 / 7, 0, 0};
        for (int i = 0; i < due.length; i++) {
            Due.is("speed " + i, x.speed(i), due[i]);
        }
        Due.is("wrong", x.speed(5), Due.BAD);
        Due.is("wrong", x.speed(-1), Due.BAD);
    }

    private static void promise48() {
        Due.about("promise 48");
        GaleBridge x = new GaleBridge();
        Due.is("none", x.races(0), 0);
        x.time(0, 0, 1, 100);
        x.time(0, 0, 1, 101);
        x.time(0, 0, 0, 1);
        Due.is("above 0", x.races(0), 2);
        Due.is("above 35: it is told as 35", x.races(35), 1);
        Due.is("above 34", x.races(34), 2);
        Due.is("above 36", x.races(36), 0);
        Due.is("far above", x.races(Due.HIGH), 0);
        Due.is("wrong", x.races(-1), Due.BAD);
        Due.is("wrong", x.races(Due.LOW), Due.BAD);
    }
}
