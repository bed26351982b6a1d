/** The boundary cases of promises 19 to 24, sentence by sentence of the document. */
public final class EdgeTextTest {
    private static final String EIGHT_OPEN = "((((((((", EIGHT_SHUT = "))))))))", EIGHT_NOTS = "!!!!!!!!";

    public static void main(String[] args) {
        feeds();
        trims();
        texts();
        usedUp();
        fullTexts();
        keys();
        names();
        numbers();
        blanks();
        tooSoon();
        goesNotOn();
        openOnes();
        openNots();
        longest();
        ofs();
        whys();
        rules();
        sums();
        wraps();
        Due.end("EdgeTextTest");
    }

    private static void feeds() {
        Script.holds("19: THE TAPE has 96 bytes at most",
            "8 x feed 0 0 0 = 12*@+12; feed 0 0 0 = FULL; count 12 = 96; trim 85 = 85; feed 0 0 0 = FULL",
            "count 12 = 85; trim 84 = 84; feed 0 0 0 = 96; trim 0 = 0; feed 0 0 0 = 12");
        Script.holds("19: any numbers", "feed LOW HIGH -1 = 12; feed NONE BAD 0 = 24; count 12 = 24");
        // 'wind' ' 4*(' '7)  '
        Script.holds("19: the highest byte of each number first",
            "feed 2003398244 540289576 925442080 = 12; text 0 = 0; rules 0 0 0 0 = 28");
        Script.holds("19: FULL: THE TAPE keeps what it has", "type 'wind 42" + " ".repeat(78) + "'; feed 0 0 0 = FULL; count 12 = 85",
            "text 0 = 0; rules 0 0 0 0 = 42");
        Script.holds("19: a byte of 128 and more is a sign of no TEXT, not a blank",
            "feed -1 -1 -1 = 12; text 0 = -100; feed 539000832 0 0 = 12; text 0 = -102");
    }

    private static void trims() {
        Script.holds("20: n is 0 .. how many it has",
            "trim 0 = 0; trim 1 = BAD; trim -1 = BAD; feed 0 0 0; trim 13 = BAD; trim -1 = BAD; trim LOW = BAD",
            "trim HIGH = BAD; count 12 = 12; trim 12 = 12; trim 1 = 1; trim 2 = BAD; count 12 = 1; trim 0 = 0",
            "trim 1 = BAD");
        Script.holds("20: its first n bytes",
            "type 'wind 1234'; trim 8 = 8; text 0 = 0; rules 0 0 0 0 = 123; type 'wind 1234'; trim 6 = 6",
            "feed 892745528 538976288 538976288 = 18; text 0 = -105; type 'wind 1234'; trim 5 = 5",
            "feed 892745528 538976288 538976288 = 17; text 0 = 1; rules 0 0 0 0 = 5678");
    }

    private static void texts() {
        Script.holds("21: a MONTH is 0 .. 599",
            "law 'wind 1' 0 = 0; law 'wind 1' 599 = 1; law 'wind 1' -1 = BAD; law 'wind 1' 600 = BAD",
            "law 'wind 1' LOW = BAD; law 'wind 1' HIGH = BAD; law 'wind 1' NONE = BAD; count 6 = 2; of 0 1 = 0",
            "of 1 1 = 599");
        Script.holds("21: BAD is asked first, ahead of a FAULT",
            "law 'wind' -1 = BAD; law 'wind' 600 = BAD; text 600 = BAD; law 'wind' 0 = -104");
    }

    private static void usedUp() {
        Script.holds("2: an act that reads THE TAPE uses it up, whatever it answers",
            "law 'wind 1' 0 = 0; count 12 = 0; law 'wind ?' 0 = -105; count 12 = 0; law 'wind 1' 600 = BAD",
            "count 12 = 0; text 0 = -100; 11 x law 'wind 1' 0 = 1+@; law 'wind 1' 0 = FULL; count 12 = 0",
            "text 0 = -100; trim 1 = BAD");
    }

    private static void fullTexts() {
        Script.holds("2: TEXTS, 12 at most, numbered from 0",
            "11 x law 'wind 7' @ = @; law 'tell x' 9 = 11; law 'tell x' 9 = FULL; count 6 = 12; of 11 0 = 3",
            "of 12 0 = BAD");
        Script.holds("21: a FAULT stands ahead of FULL, BAD ahead of both",
            "12 x law 'mend s' 0 = @; law 'mend s' 0 = FULL; law 'mend p' 0 = -105; law 'mend' 0 = -104",
            "law 'mend s' 600 = BAD; count 6 = 12");
        Script.holds("21: a refused TEXT takes no number",
            "law 'wind' 0 = -104; law 'wind 1' 600 = BAD; law 'wind 1' 0 = 0; law 'wind p p' 0 = -107",
            "law 'wind 2' 0 = 1");
    }

    /** A text by itself: place below 0 if it has no fault. */
    private static void fault(String sentence, String text, int place) {
        Script.holds("2: " + sentence + ": [" + text + "]", "law '" + text + "' 0 = " + (place < 0 ? 0 : -100 - place), "count 6 = " + (place < 0 ? 1 : 0), "count 12 = 0");
    }

    private static void keys() {
        for (String key : new String[] {"wind", "speed", "mend", "tell"}) {
            fault("a KEY", key + " 1", -1);
            fault("a KEY, letter by letter", key.substring(0, key.length() - 1) + " 1", 0);
            fault("a word is as long as it goes", key + key + " 1", 0);
            fault("a word is as long as it goes", key + "x 1", 0);
            fault("no great letters", key.toUpperCase() + " 1", 0);
            fault("a great letter is a sign by itself", key + "X 1", key.length());
        }
        fault("no KEY, by its first letter", "bind 1", 0);
        fault("no KEY, by its first letter", "apeed 1", 0);
        fault("no KEY, by its first letter", "send 1", 0);
        fault("no KEY, by its first letter", "sell 1", 0);
        fault("no KEY", "gale 1", 0);
        fault("no KEY", "p", 0);
        fault("no KEY", " 1", 1);
        fault("no KEY", "(wind 1)", 0);
        fault("one KEY", "wind wind 1", 5);
    }

    private static void names() {
        String[] keys = {"wind", "speed", "mend", "tell"};
        String[] names = {"pm", "wg", "sfk", "ox"};
        for (int i = 0; i < 4; i++) {
            for (char name = 'a'; name <= 'z'; name++) {
                boolean its = names[i].indexOf(name) >= 0;
                Script.answers("2: NAMES of " + keys[i], "law '" + keys[i] + " " + name + "' 0 = " + (its ? 0 : -101 - keys[i].length()));
            }
        }
        fault("a NAME is one letter", "wind pp", 5);
        fault("a NAME is one letter", "wind pm", 5);
        fault("a NAME is one letter", "mend sfk", 5);
        fault("no great letters", "wind P", 5);
        for (char letter : new char[] {'a', 'z'}) {
            fault("a word is a row of letters a .. z", "wind p" + letter, 5);
            fault("a word is a row of letters a .. z", "wind " + letter + "p", 5);
        }
        for (char beside : new char[] {'a' - 1, 'z' + 1, 'A', 'Z'}) {
            fault("a sign ends a word", "wind p" + beside, 6);
        }
        for (char beside : new char[] {'9' + 1, '1' | 128}) {
            fault("a sign ends a NUMBER", "wind 1" + beside, 6);
        }
        for (char beside : new char[] {'a' - 1, 'z' + 1, '0' - 1, '9' + 1, 'A', 'Z', 'p' | 128, '1' | 128}) {
            fault("any other byte is a sign by itself", "wind " + beside, 5);
        }
    }

    private static void numbers() {
        fault("NUMBER: 1 to 4 digits", "wind 0", -1);
        fault("NUMBER: 1 to 4 digits", "wind 9999", -1);
        fault("NUMBER: 1 to 4 digits", "wind 0000", -1);
        fault("a NUMBER of more than 4 digits", "wind 10000", 5);
        fault("a NUMBER of more than 4 digits", "wind 00000", 5);
        fault("a NUMBER of more than 4 digits", "wind 1+99999999999999999999", 7);
        fault("a NUMBER of more than 4 digits, at the end", "wind (12345", 6);
        Script.holds("2: the least and the greatest NUMBER",
            "law 'wind 0' 0 = 0; rules 0 0 0 0 = 0; law 'wind 9999' 0 = 1; rules 0 0 0 0 = 9999",
            "law 'wind 0007' 0 = 2; rules 0 0 0 0 = 7");
    }

    private static void blanks() {
        fault("there may be blanks at the ends", "   wind 1   ", -1);
        fault("there may be blanks between", "wind  (  1  +  p  )  *  !  2", -1);
        fault("there need not be blanks but between words", "wind(1+p)*!2", -1);
        fault("a word that needs a blank ahead of it", "wind1", 4);
        fault("a word that needs a blank ahead of it", "wind 1p", 6);
        fault("a word that needs a blank ahead of it", "wind p1", 6);
        fault("a word behind another one goes not on, even with one", "wind 1 p", 7);
        fault("no word behind a sign needs one", "wind(p", 6);
        fault("no blank within a NUMBER", "wind 1 2", 7);
        fault("no blank within a KEY", "wi nd 1", 0);
        fault("blanks alone", "     ", 5);
        fault("only byte 32 is a blank", "wind" + (char) 9 + "1", 4);
        fault("only byte 32 is a blank", "wind 1" + (char) 10, 6);
        fault("only byte 32 is a blank", "wind" + (char) 160 + "1", 4);
        fault("only byte 32 is a blank", (char) 0 + "wind 1", 0);
        fault("only byte 32 is a blank", "wind 1 " + (char) 31, 7);
        fault("only byte 32 is a blank", "wind 1 " + (char) 33, 7);
    }

    private static void tooSoon() {
        fault("the end comes too soon: the place behind the last byte", "", 0);
        fault("the end comes too soon", "wind", 4);
        fault("the end comes too soon, blanks counted", "wind    ", 8);
        fault("the end comes too soon", "wind 1+", 7);
        fault("the end comes too soon", "wind 1<", 7);
        fault("the end comes too soon", "wind 1&", 7);
        fault("the end comes too soon", "wind 1|  ", 9);
        fault("the end comes too soon", "wind 1*", 7);
        fault("the end comes too soon", "wind 1/", 7);
        fault("the end comes too soon", "wind !", 6);
        fault("the end comes too soon", "wind (", 6);
        fault("the end comes too soon", "wind (1", 7);
        fault("the end comes too soon", "wind (1  ", 9);
        fault("the end comes too soon", "wind ((1)", 9);
        fault("the end comes too soon, at the last byte of all", "wind 1+" + " ".repeat(89), 96);
    }

    private static void goesNotOn() {
        fault("TEST: one sign at most", "wind 1<2<3", 8);
        fault("TEST: one sign at most", "wind 1=2=3", 8);
        fault("TEST: one sign at most", "wind 1>2>3", 8);
        fault("TEST: one sign at most, within ( )", "wind (1<2>3)", 9);
        fault("TEST: one in each side of & and |", "wind 1<2&3=4|5>6", -1);
        fault("TEST: ( ) let another one", "wind (1<2)<(3=4)", -1);
        fault("a sign of two is none", "wind 1<=2", 7);
        fault("a sign of two is none", "wind 1&&2", 7);
        fault("a sign of two is none", "wind 1||2", 7);
        fault("no sign ahead of a PART but !", "wind -1", 5);
        fault("no sign ahead of a PART but !", "wind +1", 5);
        fault("! ahead of a PART", "wind 1-!2", -1);
        fault("! is no sign between", "wind 1!2", 6);
        fault("( is no sign between", "wind 1(2)", 6);
        fault("an empty ( )", "wind ()", 6);
        fault("a ) too many", "wind 1)", 6);
        fault("a ) too many", "wind (1))", 8);
        fault("a ) alone", "wind )", 5);
        fault("no other sign", "wind 1%2", 6);
        fault("no other sign", "wind 1,2", 6);
        fault("no other sign", "wind 1;", 6);
        fault("the first FAULT of several", "wind 1 % 2 ( 99999", 7);
    }

    private static void openOnes() {
        fault("eight ( within others", "wind " + EIGHT_OPEN + "1" + EIGHT_SHUT, -1);
        fault("the ninth (", "wind " + EIGHT_OPEN + "(1)" + EIGHT_SHUT, 13);
        fault("the ninth (, behind others that are shut", "wind (1)+(2)+" + EIGHT_OPEN + "(1)" + EIGHT_SHUT, 21);
        fault("eight, then eight", "wind " + EIGHT_OPEN + "1" + EIGHT_SHUT + "*" + EIGHT_OPEN + "2" + EIGHT_SHUT, -1);
        fault("eight, the innermost twice", "wind (((((((" + "(1)+(2)" + ")))))))", -1);
        fault("the ninth, behind an eighth that is shut", "wind (((((((" + "(1)+((2))" + ")))))))", 17);
        fault("( and ! each by itself", "wind " + EIGHT_NOTS + EIGHT_OPEN + "1" + EIGHT_SHUT, -1);
        fault("( and ! each by itself, one in the other", "wind !(!(!(!(!(!(!(!(1))))))))", -1);
        fault("the ninth ( behind eight ! and eight (", "wind !(!(!(!(!(!(!(!((1)))))))))", 21);
    }

    private static void openNots() {
        fault("eight !", "wind " + EIGHT_NOTS + "1", -1);
        fault("the ninth !", "wind " + EIGHT_NOTS + "!1", 13);
        fault("the ninth ! at the end", "wind " + EIGHT_NOTS + "!", 13);
        fault("open till its PART ends", "wind " + EIGHT_NOTS + "1+" + EIGHT_NOTS + "1", -1);
        fault("open till its PART ends, which is that of ( )", "wind " + EIGHT_NOTS + "(!1)", 14);
        fault("open till its PART ends, which is that of ( )", "wind " + EIGHT_NOTS + "(1)+!1", -1);
        fault("seven, ( ) and one", "wind !!!!!!!(!1)", -1);
        fault("seven, ( ) and two by two", "wind !!!!!!!(!1+!2)", -1);
        fault("seven, ( ) and two", "wind !!!!!!!(!!1)", 14);
        fault("seven, ( ), one, and one behind it", "wind !!!!!!!(!1)+!!!!!!!!!1", 25);
        Script.holds("2: what eight of either give",
            "law 'mend !!!!!!!!s' 0 = 0; rules 2 0 0 0 = 0; rules 2 7 0 0 = 1; law 'mend ((((((((s))))))))' 0 = 1",
            "rules 2 7 0 0 = 7");
    }

    private static void longest() {
        String most = "wind 1" + "+1".repeat(45);
        Script.holds("2: a TEXT of 96 bytes", "law '" + most + "' 0 = 0; of 0 2 = 46; rules 0 0 0 0 = 46");
        Script.holds("2: a TEXT of 96 bytes with a FAULT at the last one", "law '" + most.substring(0, 95) + "+' 0 = -195; law '" + most.substring(0, 94) + " +' 0 = -196; law '" + most.substring(0, 95) + "x' 0 = -195");
        String nots = "wind !1" + "+!1".repeat(29);
        Script.holds("2: a TEXT of many !", "law '" + nots + "' 0 = 0; of 0 2 = 30; rules 0 0 0 0 = 0");
        String right = "wind 1-(2-(3-(4-(5-(6-(7-(8-(9-9-9-9-9-9-9-9-9-9-9-9-9-9-9-9-9-9))))))))";
        Script.holds("2: a TEXT with all ( and many signs", "law '" + right + "' 0 = 0; of 0 2 = 26; rules 0 0 0 0 = " + (1 - 2 + 3 - 4 + 5 - 6 + 7 - 8 + 9 - 17 * 9));
        Script.holds("2: a TEXT that came behind THE IMAGE leaves nothing behind",
            "keep; law 'mend !s' 0 = 0; rules 2 7 0 0 = 0; back; law 'mend s' 0 = 0; rules 2 7 0 0 = 7; back",
            "law 'mend s+!f' 0 = 0; rules 2 7 0 0 = 8; back; law 'mend s' 0 = 0; rules 2 7 0 0 = 7; of 0 2 = 1");
        Script.holds("2: the TEXT ahead of it leaves nothing behind", "law '" + most + "' 0 = 0; law 'wind 5' 0 = 1; of 1 2 = 1; rules 0 0 0 0 = 5; of 0 2 = 46");
    }

    private static void ofs() {
        Script.holds("22: what is 0, 1, 2",
            "law 'tell o+x*7' 599 = 0; of 0 0 = 3; of 0 1 = 599; of 0 2 = 3; of 0 3 = BAD; of 0 -1 = BAD",
            "of 0 HIGH = BAD; of 0 LOW = BAD");
        Script.holds("22: BAD: no such TEXT",
            "of 0 0 = BAD; law 'wind 1' 0 = 0; of 0 2 = 1; of 1 0 = BAD; of -1 0 = BAD; of NONE 0 = BAD",
            "of HIGH 0 = BAD");
        Script.holds("22: KEYS 0 .. 3 in their order",
            "law 'wind 1' 0; law 'speed 1' 0; law 'mend 1' 0; law 'tell 1' 0; 4 x of @ 0 = @");
    }

    private static void whys() {
        Script.holds("23: a KEY is 0 .. 3; NONE without a TEXT",
            "4 x why @ = NONE; why 4 = BAD; why -1 = BAD; why HIGH = BAD; why LOW = BAD");
        Script.holds("2: in force from its MONTH on, that one, too",
            "law 'wind 5' 2 = 0; why 0 = NONE; rules 0 0 0 0 = 10; months 1 0; why 0 = NONE; months 1 0; why 0 = 0",
            "rules 0 0 0 0 = 5; months 60 0; why 0 = 0");
        Script.holds("2: in force in the last MONTH of all",
            "law 'wind 5' 599 = 0; 9 x months 60 0; months 58 0 = 598; why 0 = NONE; months 1 0 = 599; why 0 = 0");
        Script.holds("2: the latest MONTH, not the greatest number",
            "law 'wind 5' 1 = 0; law 'wind 6' 0 = 1; why 0 = 1; months 1 0; why 0 = 0; law 'wind 7' 0 = 2",
            "why 0 = 0; rules 0 0 0 0 = 5");
        Script.holds("2: of several of one MONTH the greatest number",
            "law 'wind 5' 0 = 0; law 'speed 9' 0 = 1; law 'wind 6' 0 = 2; why 0 = 2; law 'wind 7' 0 = 3; why 0 = 3",
            "rules 0 0 0 0 = 7; why 1 = 1; why 2 = NONE");
        Script.holds("2: of 12 the last one", "12 x law 'wind 40' 0 = @; why 0 = 11; rules 0 0 0 0 = 40");
        Script.holds("2: of each KEY by itself",
            "law 'tell 1' 0 = 0; law 'mend 1' 0 = 1; why 3 = 0; why 2 = 1; why 1 = NONE; why 0 = NONE");
    }

    private static void rules() {
        Script.holds("24: without a TEXT: wind 10, speed 99, mend 0, tell 0",
            "rules 0 1 1 1 = 10; rules 1 1 1 1 = 99; rules 2 1 1 1 = 0; rules 3 1 1 1 = 0");
        Script.holds("24: BAD: key alone",
            "rules 4 0 0 0 = BAD; rules -1 0 0 0 = BAD; rules HIGH 0 0 0 = BAD; rules LOW 0 0 0 = BAD",
            "rules 3 LOW HIGH NONE = 0");
        Script.holds("24: told numbers in the order of its NAMES, whatever they are",
            "law 'wind p*2+m*3' 0; law 'speed w*2+g*3' 0; law 'mend s*2+f*3+k*5' 0; law 'tell o*2+x*3' 0",
            "rules 0 10 100 1000 = 320; rules 1 10 100 1000 = 320; rules 2 10 100 1000 = 5320",
            "rules 3 10 100 1000 = 320; rules 0 -10 -1 HIGH = -23; rules 2 HIGH 0 0 = -2");
    }

    private static void gives(String sentence, String sum, String abc, String due) {
        Script.answers("2: " + sentence + ": " + sum, "law 'mend " + sum + "' 0 = 0; rules 2 " + abc + " = " + due);
    }

    private static void sums() {
        gives("from the left", "20-5-3", "0 0 0", "12");
        gives("from the left", "100/5/2", "0 0 0", "10");
        gives("from the left", "7/2*2", "0 0 0", "6");
        gives("* and / ahead of + and -", "2+3*4-6/2", "0 0 0", "11");
        gives("+ ahead of a test", "1+1=2", "0 0 0", "1");
        gives("a test ahead of &", "2&3>2", "0 0 0", "1");
        gives("& ahead of |", "1|1&0", "0 0 0", "1");
        gives("( ) ahead of all", "(1|1)&0", "0 0 0", "0");
        gives("! ahead of *", "!0*7", "0 0 0", "7");
        gives("! of its PART alone", "!0+7", "0 0 0", "8");
        gives("! of ( )", "!(0+7)", "0 0 0", "0");
        gives("< of less, as much, more", "(s<f)*100+(f<f)*10+(k<f)", "1 2 3", "100");
        gives("= of less, as much, more", "(s=f)*100+(f=f)*10+(k=f)", "1 2 3", "10");
        gives("> of less, as much, more", "(s>f)*100+(f>f)*10+(k>f)", "1 2 3", "1");
        gives("what is not 0 is true: &", "(s&f)*100+(f&k)*10+(s&k)", "-1 0 LOW", "1");
        gives("what is not 0 is true: |", "(s|f)*100+(f|f)*10+(s|k)", "-2 0 LOW", "101");
        gives("what is not 0 is true: !", "!s*100+!f*10+!k", "-2 0 256", "10");
        gives("both sides are worked out: no harm", "1|1/0", "0 0 0", "1");
    }

    private static void wraps() {
        gives("/ is 0 by 0", "s/f", "7 0 0", "0");
        gives("/ is 0 by 0", "f/f+3", "7 0 0", "3");
        gives("/ cuts towards 0", "s/f", "-7 2 0", "-3");
        gives("/ cuts towards 0", "s/f", "7 -2 0", "-3");
        gives("/ cuts towards 0", "s/f", "-1 2 0", "0");
        gives("Ints wrap: +", "s+f", "HIGH 1 0", "LOW");
        gives("Ints wrap: -", "s-f", "LOW 1 0", "HIGH");
        gives("Ints wrap: *", "s*f", "65536 32768 0", "LOW");
        gives("Ints wrap: *", "s*f", "65536 65536 0", "0");
        gives("Ints wrap: /", "s/f", "LOW -1 0", "LOW");
        gives("Ints wrap: NUMBERS", "9999*9999*9999", "0 0 0", String.valueOf(9999 * 9999 * 9999));
        gives("tests of the least and the greatest", "(s<f)+(s<0)*2+(f>0)*4+(s=s)*8", "LOW HIGH 0", "15");
    }
}
