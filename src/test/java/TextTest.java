/** Promises 19 to 24: the tape, texts and what they give. */
public final class TextTest {
    public static void main(String[] args) {
        promise19();
        promise20();
        promise21();
        promise21Faults();
        promise21Depths();
        promise21Full();
        promise22();
        promise23();
        promise24();
        promise24Sums();
        Due.end("TextTest");
    }

    private static void promise19() {
        Due.about("promise 19");
        GaleBridge x = new GaleBridge();
        for (int i = 1; i <= 8; i++) {
            Due.is("feed", x.feed(0x20202020, 0x20202020, 0x20202020), 12 * i);
        }
        Due.is("full", x.feed(0, 0, 0), Due.FULL);
        Due.is("bytes", x.count(12), 96);
        Due.is("trim", x.trim(85), 85);
        Due.is("still one too many", x.feed(0, 0, 0), Due.FULL);
        Due.is("bytes", x.count(12), 85);
        Due.is("trim", x.trim(84), 84);
        Due.is("just full", x.feed(0, 0, 0), 96);
        x.trim(0);
        Due.is("bytes, the highest first", x.feed('w' << 24 | 'i' << 16 | 'n' << 8 | 'd', ' ' << 24 | '4' << 16 | '2' << 8 | '+',
            '7' << 24 | ' ' << 16 | ' ' << 8 | ' '), 12);
        Due.is("text", x.text(0), 0);
        Due.is("49", x.rules(0, 0, 0, 0), 49);
        Due.is("high bits", x.feed(-1, 0x80818283, Due.LOW), 12);
        Due.is("no sign of any text", x.text(0), -100);
    }

    private static void promise20() {
        Due.about("promise 20");
        GaleBridge x = new GaleBridge();
        Due.is("empty", x.trim(0), 0);
        Due.is("above", x.trim(1), Due.BAD);
        Due.type(x, "wind 123");
        Due.is("above", x.trim(9), Due.BAD);
        Due.is("below", x.trim(-1), Due.BAD);
        Due.is("wrong", x.trim(Due.LOW), Due.BAD);
        Due.is("wrong", x.trim(Due.HIGH), Due.BAD);
        Due.is("all", x.trim(8), 8);
        Due.is("its first seven", x.trim(7), 7);
        Due.is("bytes", x.count(12), 7);
        Due.is("text", x.text(0), 0);
        Due.is("12", x.rules(0, 0, 0, 0), 12);
    }

    private static void promise21() {
        Due.about("promise 21");
        GaleBridge x = new GaleBridge();
        Due.is("wind", Due.text(x, "wind p", 599), 0);
        Due.is("speed", Due.text(x, "  speed(w)  ", 0), 1);
        Due.is("mend", Due.text(x, "mend!s", 0), 2);
        Due.is("tell", Due.text(x, "tell 1|o&x<3&1+2-3*4/5", 0), 3);
        Due.is("used up", x.count(12), 0);
        Due.is("texts", x.count(6), 4);
        for (int month : new int[] {-1, 600, Due.LOW, Due.HIGH, Due.NONE}) {
            Due.type(x, "wind p");
            Due.is("month", x.text(month), Due.BAD);
            Due.is("used up, too", x.count(12), 0);
        }
        Due.type(x, "wind ?");
        Due.is("BAD is asked first", x.text(600), Due.BAD);
        Due.type(x, "wind ?");
        Due.is("fault", x.text(0), -105);
        Due.is("used up, too", x.count(12), 0);
        Due.is("texts", x.count(6), 4);
    }

    private static void fault(String text, int place) {
        GaleBridge x = new GaleBridge();
        Due.is("[" + text + "]", Due.text(x, text, 0), place < 0 ? 0 : -100 - place);
        Due.is("texts behind [" + text + "]", x.count(6), place < 0 ? 1 : 0);
    }

    private static void promise21Faults() {
        Due.about("promise 21, faults");
        fault("", 0);
        fault("   ", 3);
        fault("wind", 4);
        fault("wind  ", 6);
        fault("windp", 0);
        fault("Wind p", 0);
        fault(" win p", 1);
        fault("wind5", 4);
        fault("wind 5", -1);
        fault("5 wind", 0);
        fault("send s", 0);
        fault("wind pa", 5);
        fault("wind pz", 5);
        fault("wind az", 5);
        fault("mend 5s", 6);
        fault("mend s5", 6);
        fault("mend s 5", 7);
        fault("mend sf", 5);
        fault("mend s f", 7);
        fault("mend k", -1);
        fault("mend p", 5);
        fault("wind m", -1);
        fault("wind w", 5);
        fault("speed w+g", -1);
        fault("speed m", 6);
        fault("tell o-x", -1);
        fault("tell k", 5);
        fault("wind 0000", -1);
        fault("wind 9999", -1);
        fault("wind 12345", 5);
        fault("wind 00001", 5);
        fault("wind 1 2", 7);
        fault("wind 1<2", -1);
        fault("wind 1<2<3", 8);
        fault("wind 1=2>3", 8);
        fault("wind (1<2)<3", -1);
        fault("wind 1<(2<3)", -1);
        fault("wind 1<2&3<4|5=6", -1);
        fault("wind 1<=2", 7);
        fault("wind !1", -1);
        fault("wind 1!", 6);
        fault("wind 1!=2", 6);
        fault("wind -1", 5);
        fault("wind 1--1", 7);
        fault("wind 1-!1", -1);
        fault("wind ()", 6);
        fault("wind (1", 7);
        fault("wind (1  ", 9);
        fault("wind 1)", 6);
        fault("wind (1))", 8);
        fault("wind(1)(2)", 7);
        fault("wind 1+", 7);
        fault("wind 1&&2", 7);
        fault("wind 1\t", 6);
        fault("wind\t1", 4);
        fault("wind 1" + (char) 0, 6);
        fault("wind 1" + (char) 233, 6);
        fault("wind A", 5);
        fault("wind `", 5);
        fault("wind {", 5);
        fault("wind wind", 5);
        fault("wind p p", 7);
        fault("wind p(", 6);
        fault("wind 1 <  2  ", -1);
    }

    private static void promise21Depths() {
        Due.about("promise 21, depths");
        fault("wind ((((((((1))))))))", -1);
        fault("wind (((((((((1)))))))))", 13);
        fault("wind ((((((((1))))))))+((((((((1))))))))", -1);
        fault("wind !!!!!!!!1", -1);
        fault("wind !!!!!!!!!1", 13);
        fault("wind !!!!!!!!1+!!!!!!!!1", -1);
        fault("wind !!!!!!!!((((((((1))))))))", -1);
        fault("wind !!!!!!!!(!1)", 14);
        fault("wind !!!!(!!!!(1))", -1);
        fault("wind !!!!(!!!!(1+!1))", 17);
        fault("wind !!!!(!!!!(1))+!!!!!!!!1", -1);
        fault("wind !!!!(1)&!!!!!!!!!1", 21);
        fault("wind !(!(!(!(!(!(!(!(1))))))))", -1);
        fault("wind ((((((((1)+(1))))))))", -1);
        fault("wind ((((((((1)+((1))))))))", 17);
    }

    private static void promise21Full() {
        Due.about("promise 21, full");
        GaleBridge x = new GaleBridge();
        for (int i = 0; i < 12; i++) {
            Due.is("text " + i, Due.text(x, "wind " + i, i), i);
        }
        Due.is("one more", Due.text(x, "wind 1", 0), Due.FULL);
        Due.is("used up, too", x.count(12), 0);
        Due.is("a fault comes first", Due.text(x, "wind", 0), -104);
        Due.is("BAD comes first", Due.text(x, "wind 1", 600), Due.BAD);
        Due.is("texts", x.count(6), 12);
        GaleBridge y = new GaleBridge();
        StringBuilder longest = new StringBuilder("wind 1");
        while (longest.length() < 96) {
            longest.append("+1");
        }
        Due.is("96 bytes", Due.text(y, longest.toString(), 0), 0);
        Due.is("leaves", y.of(0, 2), 46);
        Due.is("sum", y.rules(0, 0, 0, 0), 46);
        StringBuilder deepest = new StringBuilder("wind 1");
        while (deepest.length() < 93) {
            deepest.append("+(1)");
        }
        Due.is("96 bytes at most", Due.text(y, deepest.toString(), 0), 1);
        StringBuilder behind = new StringBuilder("wind p");
        while (behind.length() < 96) {
            behind.append(' ');
        }
        Due.is("blanks behind", Due.text(y, behind.toString(), 0), 2);
    }

    private static void promise22() {
        Due.about("promise 22");
        GaleBridge x = new GaleBridge();
        Due.is("no text", x.of(0, 0), Due.BAD);
        Due.text(x, "tell 12+o*(x-3)", 7);
        Due.text(x, "mend !s", 599);
        Due.text(x, "speed 1", 0);
        Due.text(x, "wind p|p", 1);
        int[][] due = {{3, 7, 4}, {2, 599, 1}, {1, 0, 1}, {0, 1, 2}};
        for (int text = 0; text < 4; text++) {
            for (int what = 0; what < 3; what++) {
                Due.is("of(" + text + ", " + what + ")", x.of(text, what), due[text][what]);
            }
        }
        Due.is("what", x.of(0, 3), Due.BAD);
        Due.is("what", x.of(0, -1), Due.BAD);
        Due.is("text", x.of(4, 0), Due.BAD);
        Due.is("text", x.of(-1, 0), Due.BAD);
    }

    private static void promise23() {
        Due.about("promise 23");
        GaleBridge x = new GaleBridge();
        for (int key = 0; key < 4; key++) {
            Due.is("none", x.why(key), Due.NONE);
        }
        Due.is("wrong", x.why(4), Due.BAD);
        Due.is("wrong", x.why(-1), Due.BAD);
        Due.text(x, "wind 1", 2);
        Due.text(x, "wind 2", 1);
        Due.text(x, "speed 3", 0);
        Due.text(x, "wind 4", 2);
        Due.text(x, "wind 5", 1);
        Due.is("not yet", x.why(0), Due.NONE);
        Due.is("speed", x.why(1), 2);
        x.months(1, 0);
        Due.is("of one month the greatest number", x.why(0), 4);
        x.months(1, 0);
        Due.is("the latest month", x.why(0), 3);
        x.months(60, 0);
        Due.is("still", x.why(0), 3);
        Due.is("none", x.why(2), Due.NONE);
    }

    private static void promise24() {
        Due.about("promise 24");
        GaleBridge x = new GaleBridge();
        int[] without = {10, 99, 0, 0};
        for (int key = 0; key < 4; key++) {
            Due.is("without a text", x.rules(key, 1, 2, 3), without[key]);
        }
        Due.is("wrong", x.rules(4, 0, 0, 0), Due.BAD);
        Due.is("wrong", x.rules(-1, 0, 0, 0), Due.BAD);
        Due.text(x, "wind p*10+m", 0);
        Due.text(x, "speed w*10+g", 0);
        Due.text(x, "mend s*100+f*10+k", 0);
        Due.text(x, "tell o*10+x", 0);
        Due.is("wind", x.rules(0, 1, 2, 3), 12);
        Due.is("speed", x.rules(1, 1, 2, 3), 12);
        Due.is("mend", x.rules(2, 1, 2, 3), 123);
        Due.is("tell", x.rules(3, 1, 2, 3), 12);
        Due.is("any numbers", x.rules(0, Due.HIGH, Due.LOW, 0), Due.HIGH * 10 + Due.LOW);
        Due.text(x, "wind 77", 1);
        Due.is("not yet", x.rules(0, 1, 2, 3), 12);
        x.months(1, 0);
        Due.is("in force", x.rules(0, 1, 2, 3), 77);
    }

    private static void sum(String e, int a, int b, int c, int due) {
        GaleBridge x = new GaleBridge();
        Due.is("mend " + e, Due.text(x, "mend " + e, 0), 0);
        Due.is(e, x.rules(2, a, b, c), due);
    }

    private static void promise24Sums() {
        Due.about("promise 24, sums");
        sum("9-4-3", 0, 0, 0, 2);
        sum("100/5/2", 0, 0, 0, 10);
        sum("100/7*7", 0, 0, 0, 98);
        sum("2+3*4", 0, 0, 0, 14);
        sum("(2+3)*4", 0, 0, 0, 20);
        sum("1-9/2", 0, 0, 0, -3);
        sum("(1-8)/2", 0, 0, 0, -3);
        sum("5/0", 0, 0, 0, 0);
        sum("5/0+1", 0, 0, 0, 1);
        sum("s/f", Due.LOW, -1, 0, Due.LOW);
        sum("s+f", Due.HIGH, 1, 0, Due.LOW);
        sum("s*f", 65536, 65536, 0, 0);
        sum("1<2", 0, 0, 0, 1);
        sum("2<2", 0, 0, 0, 0);
        sum("2=2", 0, 0, 0, 1);
        sum("2=3", 0, 0, 0, 0);
        sum("3>2", 0, 0, 0, 1);
        sum("2>2", 0, 0, 0, 0);
        sum("s<f", Due.LOW, Due.HIGH, 0, 1);
        sum("1+1<1*3", 0, 0, 0, 1);
        sum("7&8", 0, 0, 0, 1);
        sum("7&0", 0, 0, 0, 0);
        sum("0|8", 0, 0, 0, 1);
        sum("0|0", 0, 0, 0, 0);
        sum("1|0&0", 0, 0, 0, 1);
        sum("(1|0)&0", 0, 0, 0, 0);
        sum("(0|1)+(1|1)+(0&1)", 0, 0, 0, 2);
        sum("!5", 0, 0, 0, 0);
        sum("!0", 0, 0, 0, 1);
        sum("!!7", 0, 0, 0, 1);
        sum("!0*5", 0, 0, 0, 5);
        sum("!0+1", 0, 0, 0, 2);
        sum("!(0+1)", 0, 0, 0, 0);
        sum("2=3|4<5&6>7", 0, 0, 0, 0);
        sum("0042", 0, 0, 0, 42);
        sum("9999*9999*9999", 0, 0, 0, 9999 * 9999 * 9999);
        sum("k-f-s", 1, 2, 9, 6);
        sum("((((((((s))))))))", 5, 0, 0, 5);
    }
}
