import java.math.BigInteger;
import java.util.ArrayList;
import java.util.List;

/**
 * The document once more, in its plainest form and without a thought of speed: what GaleBridge answers is held
 * against it. Its ways are other ones on purpose: fractions instead of limits, gusts tried one by one, texts read by
 * what may come next instead of by levels, each set of straps tried on the bridge itself.
 */
final class Model {
    private static final class Piece implements Cloneable {
        int kind, pier, strength, share, flaw, slack, hand, month, broken, side, found;
        boolean gone;

        boolean stands() {
            return kind != 4 && !gone;
        }

        boolean tie() {
            return kind == 2 || kind == 3;
        }

        Piece copy() {
            try {
                return (Piece) clone();
            } catch (CloneNotSupportedException e) {
                throw new IllegalStateException(e);
            }
        }
    }

    private static final class Rule {
        int key, month;
        List<String> sum;
    }

    /** All that an image keeps. */
    private static final class World {
        int count = 4, trainWeight, trainSail, trainOn = Due.NONE, month, shake = 5, comes = Due.NONE, pace = 1;
        boolean trainDown;
        int[] weight = new int[12], sail = new int[12];
        boolean[] down = new boolean[12];
        int[] gusts = new int[60];
        int[][] lets = new int[8][2];
        int[][] saw = new int[8][10];
        List<Piece> parts = new ArrayList<>();
        List<Rule> texts = new ArrayList<>();
        List<int[]> words = new ArrayList<>(), stations = new ArrayList<>(), times = new ArrayList<>();
        List<Integer> straps = new ArrayList<>();

        World() {
            spansAnew();
            for (int[] l : lets) {
                l[0] = l[1] = 63;
            }
            for (int[] s : saw) {
                java.util.Arrays.fill(s, Integer.MAX_VALUE);
            }
        }

        void spansAnew() {
            java.util.Arrays.fill(weight, 10);
            java.util.Arrays.fill(sail, 10);
            java.util.Arrays.fill(down, false);
        }

        World copy() {
            World w = new World();
            w.count = count;
            w.trainWeight = trainWeight;
            w.trainSail = trainSail;
            w.trainOn = trainOn;
            w.trainDown = trainDown;
            w.month = month;
            w.shake = shake;
            w.comes = comes;
            w.pace = pace;
            w.weight = weight.clone();
            w.sail = sail.clone();
            w.down = down.clone();
            w.gusts = gusts.clone();
            for (int i = 0; i < 8; i++) {
                w.lets[i] = lets[i].clone();
                w.saw[i] = saw[i].clone();
            }
            for (Piece p : parts) {
                w.parts.add(p.copy());
            }
            w.texts.addAll(texts);
            w.words.addAll(words);
            w.stations.addAll(stations);
            w.times.addAll(times);
            w.straps.addAll(straps);
            return w;
        }

        int pull(int pier, int gust) {
            int sum = 0;
            for (int k = pier - 1; k <= pier; k++) {
                if (k >= 0 && k < count && !down[k]) {
                    sum += gust * sail[k] - 10 * weight[k];
                    if (trainOn == k) {
                        sum += gust * trainSail - 10 * trainWeight;
                    }
                }
            }
            return sum < 0 ? 0 : sum;
        }

        int shares(int pier) {
            int sum = 0;
            for (Piece p : parts) {
                if (p.stands() && p.pier == pier) {
                    sum += p.share;
                }
            }
            return sum;
        }

        static int bears(Piece p) {
            switch (p.kind) {
                case 1:
                    return p.strength * (100 - p.flaw) * 100;
                case 2:
                    return p.strength * (100 - p.slack) * 100;
                case 3:
                    return p.strength * (100 - p.slack) * (100 - p.flaw);
                default:
                    return p.strength * 10000;
            }
        }

        /** Load by bears, above and below the line. */
        BigInteger[] strain(Piece p, int gust) {
            return new BigInteger[] {
                BigInteger.valueOf(pull(p.pier, gust)).multiply(BigInteger.valueOf(p.share * 10000L)),
                BigInteger.valueOf(shares(p.pier)).multiply(BigInteger.valueOf(bears(p)))};
        }

        boolean over(Piece p, int gust) {
            if (!p.stands()) {
                return false;
            }
            BigInteger[] s = strain(p, gust);
            return s[0].compareTo(s[1]) > 0;
        }

        int first(int gust) {
            int found = Due.NONE;
            BigInteger[] most = null;
            for (int i = 0; i < parts.size(); i++) {
                if (over(parts.get(i), gust)) {
                    BigInteger[] s = strain(parts.get(i), gust);
                    if (most == null || s[0].multiply(most[1]).compareTo(most[0].multiply(s[1])) > 0) {
                        most = s;
                        found = i;
                    }
                }
            }
            return found;
        }

        List<Integer> fall(int gust) {
            List<Integer> went = new ArrayList<>();
            for (int i = first(gust); i != Due.NONE; i = first(gust)) {
                Piece p = parts.get(i);
                p.gone = true;
                went.add(i);
                if (shares(p.pier) == 0) {
                    for (int k = Math.max(0, p.pier - 1); k <= p.pier && k < count; k++) {
                        down[k] = true;
                    }
                    if (trainOn != Due.NONE && down[trainOn]) {
                        trainOn = Due.NONE;
                        trainDown = true;
                    }
                }
            }
            return went;
        }

        int safe() {
            for (int g = 99; g >= 0; g--) {
                if (first(g) == Due.NONE) {
                    return g;
                }
            }
            return -1;
        }

        int gone() {
            int n = 0;
            for (Piece p : parts) {
                n += p.gone ? 1 : 0;
            }
            return n;
        }

        int downs() {
            int n = 0;
            for (int k = 0; k < count; k++) {
                n += down[k] ? 1 : 0;
            }
            return n;
        }

        void startNight() {
            trainOn = Due.NONE;
            trainDown = false;
        }

        void second(int s) {
            if (comes != Due.NONE && s >= comes && !trainDown) {
                int k = (s - comes) * pace / 20;
                trainOn = k < count ? k : Due.NONE;
                if (trainOn != Due.NONE && down[k]) {
                    trainOn = Due.NONE;
                    trainDown = true;
                }
            }
            fall(gusts[s]);
        }

        int why(int key) {
            int found = Due.NONE;
            for (int month = 0; month <= this.month; month++) {
                for (int i = 0; i < texts.size(); i++) {
                    if (texts.get(i).key == key && texts.get(i).month == month) {
                        found = i;
                    }
                }
            }
            return found;
        }

        int rule(int key, int a, int b, int c) {
            int text = why(key);
            if (text == Due.NONE) {
                return new int[] {10, 99, 0, 0}[key];
            }
            List<String> sum = texts.get(text).sum;
            return work(sum, 0, sum.size(), NAMES[key], new int[] {a, b, c});
        }

        boolean knew(int office, int matter, int day) {
            return know(matter, day, false)[office];
        }

        /** Who knows behind the last word of a day; or, in place 8, whether a word was blind. */
        boolean[] know(int matter, int day, boolean all) {
            boolean[] told = new boolean[8];
            blind = 0;
            for (int d = 0; d <= 9999; d++) {
                if (!all && d > day) {
                    break;
                }
                for (int[] w : words) {
                    if (w[0] == d && w[3] == matter) {
                        if (told[w[1]] || saw[w[1]][matter] <= d) {
                            told[w[2]] = true;
                        } else {
                            blind++;
                        }
                    }
                }
            }
            for (int o = 0; o < 8; o++) {
                told[o] |= saw[o][matter] <= day;
            }
            return told;
        }

        int blind;
    }

    static final String[] KEYS = {"wind", "speed", "mend", "tell"};
    static final String[] NAMES = {"pm", "wg", "sfk", "ox"};

    private World w = new World();
    private World image = null;
    private StringBuilder tape = new StringBuilder();
    private final Integer[][] rows = new Integer[6][];
    private final int[] sorts = new int[6];
    private final List<Integer> waiting = new ArrayList<>();

    private static boolean in(int v, int low, int high) {
        return v >= low && v <= high;
    }

    private boolean isPart(int part) {
        return in(part, 0, w.parts.size() - 1);
    }

    int spans(int n) {
        if (!in(n, 2, 12)) {
            return Due.BAD;
        }
        if (!w.parts.isEmpty()) {
            return Due.NO;
        }
        int was = w.count;
        w.count = n;
        w.spansAnew();
        w.startNight();
        return was;
    }

    int span(int span, int what, int v) {
        if (!in(span, -1, w.count - 1) || !in(what, 0, 1) || !in(v, 0, 99)) {
            return Due.BAD;
        }
        int was;
        if (span == -1 && what == 0) {
            was = w.trainWeight;
            w.trainWeight = v;
        } else if (span == -1) {
            was = w.trainSail;
            w.trainSail = v;
        } else if (what == 0) {
            was = w.weight[span];
            w.weight[span] = v;
        } else {
            was = w.sail[span];
            w.sail[span] = v;
        }
        return was;
    }

    int has(int span, int what) {
        if (!in(span, 0, w.count - 1) || !in(what, 0, 3)) {
            return Due.BAD;
        }
        return new int[] {w.weight[span], w.sail[span], w.down[span] ? 1 : 0, w.trainOn == span ? 1 : 0}[what];
    }

    int train(int span) {
        if (span != Due.NONE && !in(span, 0, w.count - 1)) {
            return Due.BAD;
        }
        if (span != Due.NONE && w.down[span]) {
            return Due.NO;
        }
        int was = w.trainOn;
        w.trainOn = span;
        w.trainDown = false;
        return was;
    }

    int part(int kind, int pier, int strength, int share, int hand) {
        if (!in(kind, 0, 3) || !in(pier, 0, w.count) || !in(strength, 1, 999) || !in(share, 1, 9) || !in(hand, 0, 5)) {
            return Due.BAD;
        }
        Piece p = new Piece();
        p.kind = kind;
        p.pier = pier;
        p.strength = strength;
        p.share = share;
        p.hand = hand;
        return come(p);
    }

    int piece(int pier, int broken, int side) {
        if (!in(pier, 0, w.count) || !in(broken, 0, 5) || !in(side, 0, 1)) {
            return Due.BAD;
        }
        Piece p = new Piece();
        p.kind = 4;
        p.pier = pier;
        p.strength = 1;
        p.share = 1;
        p.broken = broken;
        p.side = side;
        return come(p);
    }

    private int come(Piece p) {
        if (w.parts.size() == 40) {
            return Due.FULL;
        }
        p.month = w.month;
        w.parts.add(p);
        return w.parts.size() - 1;
    }

    int told(int part, int what) {
        if (!isPart(part) || !in(what, 0, 11)) {
            return Due.BAD;
        }
        Piece p = w.parts.get(part);
        return new int[] {p.kind, p.pier, p.strength, p.share, p.flaw, p.slack, p.hand, p.month, p.stands() ? 1 : 0, p.broken,
            p.side, p.found}[what];
    }

    int as(int part, int kind) {
        if (!isPart(part) || !in(kind, 0, 4)) {
            return Due.BAD;
        }
        int[] under = {-1, 0, 0, 2, 0};
        for (int k = w.parts.get(part).kind; k >= 0; k = under[k]) {
            if (k == kind) {
                return w.parts.get(part).strength;
            }
        }
        return Due.KIND;
    }

    int be(int part, int what, int v) {
        if (!isPart(part) || !in(what, 4, 5) || !in(v, 0, 99)) {
            return Due.BAD;
        }
        Piece p = w.parts.get(part);
        if (p.kind == 4) {
            return Due.KIND;
        }
        int was = what == 4 ? p.flaw : p.slack;
        if (what == 4) {
            p.flaw = v;
        } else {
            p.slack = v;
        }
        return was;
    }

    int raise() {
        int gone = w.gone();
        for (Piece p : w.parts) {
            p.gone = false;
        }
        java.util.Arrays.fill(w.down, false);
        w.startNight();
        return gone;
    }

    int pull(int pier, int gust) {
        return in(pier, 0, w.count) && in(gust, 0, 99) ? w.pull(pier, gust) : Due.BAD;
    }

    int load(int part, int gust) {
        if (!isPart(part) || !in(gust, 0, 99)) {
            return Due.BAD;
        }
        Piece p = w.parts.get(part);
        return p.stands() ? w.pull(p.pier, gust) * p.share / w.shares(p.pier) : Due.NO;
    }

    int bears(int part) {
        return isPart(part) ? World.bears(w.parts.get(part)) : Due.BAD;
    }

    int first(int gust) {
        return in(gust, 0, 99) ? w.first(gust) : Due.BAD;
    }

    int fall(int gust) {
        return in(gust, 0, 99) ? w.fall(gust).size() : Due.BAD;
    }

    int next(int gust, int i) {
        if (!in(gust, 0, 99) || i < 0) {
            return Due.BAD;
        }
        List<Integer> went = w.copy().fall(gust);
        return i < went.size() ? went.get(i) : Due.NONE;
    }

    int safe() {
        return w.safe();
    }

    int feed(int a, int b, int c) {
        if (tape.length() + 12 > 96) {
            return Due.FULL;
        }
        for (int v : new int[] {a, b, c}) {
            for (byte x : java.nio.ByteBuffer.allocate(4).putInt(v).array()) {
                tape.append((char) (x & 255));
            }
        }
        return tape.length();
    }

    int trim(int n) {
        if (!in(n, 0, tape.length())) {
            return Due.BAD;
        }
        tape.setLength(n);
        return n;
    }

    int text(int month) {
        String read = tape.toString();
        tape.setLength(0);
        if (!in(month, 0, 599)) {
            return Due.BAD;
        }
        Rule rule = new Rule();
        rule.month = month;
        rule.sum = new ArrayList<>();
        int fault = faultOf(read, rule);
        if (fault >= 0) {
            return -100 - fault;
        }
        if (w.texts.size() == 12) {
            return Due.FULL;
        }
        w.texts.add(rule);
        return w.texts.size() - 1;
    }

    /** Goes from word to word, with what is open in a row of ( and ! and what may come next. */
    private static int faultOf(String read, Rule rule) {
        java.util.regex.Matcher m = java.util.regex.Pattern.compile("[a-z]+|[0-9]+|[^ ]", java.util.regex.Pattern.DOTALL).matcher(read);
        boolean key = true;
        boolean operand = true;
        int lastWordEnd = -1;
        List<Character> open = new ArrayList<>();
        List<Boolean> tested = new ArrayList<>(List.of(false));
        while (m.find()) {
            String t = m.group();
            boolean word = t.matches("[a-z]+|[0-9]+");
            if (word && lastWordEnd == m.start()) {
                return m.start();
            }
            lastWordEnd = word ? m.end() : -1;
            int top = tested.size() - 1;
            if (key) {
                rule.key = java.util.Arrays.asList(KEYS).indexOf(t);
                if (rule.key < 0) {
                    return m.start();
                }
                key = false;
                continue;
            }
            if (operand) {
                if (t.equals("(") || t.equals("!")) {
                    if (java.util.Collections.frequency(open, t.charAt(0)) == 8) {
                        return m.start();
                    }
                    open.add(t.charAt(0));
                    if (t.equals("(")) {
                        tested.add(false);
                    }
                } else if (t.matches("[0-9]{1,4}") || t.length() == 1 && NAMES[rule.key].contains(t)) {
                    operand = false;
                    closeNots(open);
                } else {
                    return m.start();
                }
            } else if (t.equals(")")) {
                if (open.isEmpty()) {
                    return m.start();
                }
                open.remove(open.size() - 1);
                tested.remove(top);
                closeNots(open);
            } else if (t.length() == 1 && "+-*/&|<=>".contains(t)) {
                if ("<=>".contains(t)) {
                    if (tested.get(top)) {
                        return m.start();
                    }
                    tested.set(top, true);
                } else if ("&|".contains(t)) {
                    tested.set(top, false);
                }
                operand = true;
            } else {
                return m.start();
            }
            rule.sum.add(t);
        }
        return operand || key || !open.isEmpty() ? read.length() : -1;
    }

    private static void closeNots(List<Character> open) {
        while (!open.isEmpty() && open.get(open.size() - 1) == '!') {
            open.remove(open.size() - 1);
        }
    }

    /** Parts a sum at the last of its loosest signs outside all ( ). */
    private static int work(List<String> sum, int from, int to, String names, int[] values) {
        for (String signs : new String[] {"|", "&", "<=>", "+-", "*/"}) {
            int depth = 0;
            for (int i = to - 1; i >= from; i--) {
                String t = sum.get(i);
                depth += t.equals(")") ? 1 : t.equals("(") ? -1 : 0;
                if (depth == 0 && signs.contains(t)) {
                    int a = work(sum, from, i, names, values);
                    int b = work(sum, i + 1, to, names, values);
                    return join(t.charAt(0), a, b);
                }
            }
        }
        String t = sum.get(from);
        if (t.equals("!")) {
            return work(sum, from + 1, to, names, values) == 0 ? 1 : 0;
        }
        if (t.equals("(")) {
            return work(sum, from + 1, to - 1, names, values);
        }
        return Character.isDigit(t.charAt(0)) ? Integer.parseInt(t) : values[names.indexOf(t)];
    }

    private static int join(char sign, int a, int b) {
        switch (sign) {
            case '+':
                return a + b;
            case '-':
                return a - b;
            case '*':
                return a * b;
            case '/':
                return b == 0 ? 0 : (int) ((long) a / b);
            case '<':
                return a < b ? 1 : 0;
            case '=':
                return a == b ? 1 : 0;
            case '>':
                return a > b ? 1 : 0;
            case '&':
                return a != 0 && b != 0 ? 1 : 0;
            default:
                return a != 0 || b != 0 ? 1 : 0;
        }
    }

    int of(int text, int what) {
        if (!in(text, 0, w.texts.size() - 1) || !in(what, 0, 2)) {
            return Due.BAD;
        }
        Rule r = w.texts.get(text);
        int leaves = 0;
        for (String t : r.sum) {
            leaves += Character.isLetterOrDigit(t.charAt(0)) ? 1 : 0;
        }
        return new int[] {r.key, r.month, leaves}[what];
    }

    int why(int key) {
        return in(key, 0, 3) ? w.why(key) : Due.BAD;
    }

    int rules(int key, int a, int b, int c) {
        return in(key, 0, 3) ? w.rule(key, a, b, c) : Due.BAD;
    }

    int months(int n, int trains) {
        if (!in(n, 1, 60) || !in(trains, 0, 999)) {
            return Due.BAD;
        }
        if (w.month + n > 599) {
            return Due.FULL;
        }
        for (int i = 0; i < n; i++) {
            for (Piece p : w.parts) {
                if (p.tie() && p.stands()) {
                    p.slack = Math.min(99, p.slack + w.shake * trains / 100);
                }
            }
            for (Piece p : w.parts) {
                if (p.stands() && w.rule(2, p.slack, p.flaw, p.kind) != 0) {
                    p.slack = 0;
                }
            }
            w.month++;
        }
        return w.month;
    }

    int shake(int v) {
        if (!in(v, 0, 99)) {
            return Due.BAD;
        }
        int was = w.shake;
        w.shake = v;
        return was;
    }

    int trust(int part, int trains) {
        if (!isPart(part) || !in(trains, 0, 999)) {
            return Due.BAD;
        }
        Piece p = w.parts.get(part);
        if (!p.tie()) {
            return Due.KIND;
        }
        for (int months = 1; months <= 600; months++) {
            if (p.slack + months * (w.shake * trains / 100) >= 50) {
                return w.month + months - 1;
            }
        }
        return Due.NONE;
    }

    int gust(int second, int v) {
        if (!in(second, 0, 59) || !in(v, 0, 99)) {
            return Due.BAD;
        }
        int was = w.gusts[second];
        w.gusts[second] = v;
        return was;
    }

    int runs(int second, int speed) {
        if (second != Due.NONE && !in(second, 0, 59) || !in(speed, 1, 20)) {
            return Due.BAD;
        }
        w.comes = second;
        w.pace = speed;
        return 1;
    }

    int night(int n) {
        if (!in(n, 0, 59)) {
            return Due.BAD;
        }
        w.startNight();
        for (int s = 0; s <= n; s++) {
            w.second(s);
        }
        return w.gone();
    }

    int judged(int pier) {
        if (!in(pier, 0, w.count)) {
            return Due.BAD;
        }
        int gust = Math.max(0, Math.min(99, w.rule(0, pier, w.month, 0)));
        for (Piece p : w.parts) {
            if (p.pier == pier && w.over(p, gust)) {
                return 1;
            }
        }
        return 0;
    }

    int fast(int speed, int gust) {
        if (!in(speed, 0, 999) || !in(gust, 0, 99)) {
            return Due.BAD;
        }
        return speed > w.rule(1, w.trainWeight, gust, 0) ? 1 : 0;
    }

    int story(int story, int side, int set) {
        if (!in(story, 0, 7) || !in(side, 0, 1) || !in(set, 0, 63)) {
            return Due.BAD;
        }
        int was = w.lets[story][side];
        w.lets[story][side] = set;
        return was;
    }

    int find(int part, int on) {
        if (!isPart(part) || !in(on, 0, 1)) {
            return Due.BAD;
        }
        Piece p = w.parts.get(part);
        if (p.kind != 4) {
            return Due.KIND;
        }
        int was = p.found;
        p.found = on;
        return was;
    }

    private boolean fits(int story) {
        for (Piece p : w.parts) {
            if (p.kind == 4 && p.found == 1 && (w.lets[story][p.side] & 1 << p.broken) == 0) {
                return false;
            }
        }
        return true;
    }

    int fits() {
        int set = 0;
        for (int i = 0; i < 8; i++) {
            set += fits(i) ? 1 << i : 0;
        }
        return set;
    }

    int best() {
        int found = Due.NONE;
        int least = Integer.MAX_VALUE;
        for (int i = 0; i < w.parts.size(); i++) {
            Piece p = w.parts.get(i);
            if (p.kind != 4 || p.found == 1) {
                continue;
            }
            int shown = p.broken;
            int most = 0;
            p.found = 1;
            for (p.broken = 0; p.broken < 6; p.broken++) {
                most = Math.max(most, Integer.bitCount(fits()));
            }
            p.broken = shown;
            p.found = 0;
            if (most < least) {
                least = most;
                found = i;
            }
        }
        return found;
    }

    int doubt(int part) {
        if (!isPart(part)) {
            return Due.BAD;
        }
        Piece p = w.parts.get(part);
        if (p.kind == 4) {
            return Due.KIND;
        }
        if (p.flaw != 0) {
            return 2;
        }
        for (Piece q : w.parts) {
            if (q != p && q.kind != 4 && q.month == p.month && q.hand == p.hand && q.flaw != 0) {
                return 1;
            }
        }
        return 0;
    }

    int flawed(int what) {
        if (!in(what, 0, 1)) {
            return Due.BAD;
        }
        int n = 0;
        for (int i = 0; i < w.parts.size(); i++) {
            int doubt = doubt(i);
            n += doubt == 2 || doubt == 1 && what == 1 ? 1 : 0;
        }
        return n;
    }

    int word(int day, int one, int other, int matter) {
        if (!in(day, 0, 9999) || !in(one, 0, 7) || !in(other, 0, 7) || one == other || !in(matter, 0, 9)) {
            return Due.BAD;
        }
        if (w.words.size() == 30) {
            return Due.FULL;
        }
        w.words.add(new int[] {day, one, other, matter});
        return w.words.size() - 1;
    }

    int saw(int office, int matter, int day) {
        if (!in(office, 0, 7) || !in(matter, 0, 9) || !in(day, 0, 9999)) {
            return Due.BAD;
        }
        if (day < w.saw[office][matter]) {
            w.saw[office][matter] = day;
        }
        return w.saw[office][matter];
    }

    int knew(int office, int matter, int day) {
        if (!in(office, 0, 7) || !in(matter, 0, 9) || !in(day, 0, 9999)) {
            return Due.BAD;
        }
        return w.knew(office, matter, day) ? 1 : 0;
    }

    int blind(int matter) {
        if (!in(matter, 0, 9)) {
            return Due.BAD;
        }
        w.know(matter, 0, true);
        return w.blind;
    }

    int must(int matter, int day) {
        if (!in(matter, 0, 9) || !in(day, 0, 9999)) {
            return Due.BAD;
        }
        int set = 0;
        for (int o = 0; o < 8; o++) {
            set += w.knew(o, matter, day) && w.rule(3, o, matter, 0) != 0 ? 1 << o : 0;
        }
        return set;
    }

    int station(int taken, int seasons, int children) {
        if (!in(taken, 0, 999) || !in(seasons, 0, 999) || !in(children, 0, 999)) {
            return Due.BAD;
        }
        if (w.stations.size() == 8) {
            return Due.FULL;
        }
        w.stations.add(new int[] {taken, seasons, children});
        return w.stations.size() - 1;
    }

    int aboard(int what) {
        if (!in(what, 0, 1)) {
            return Due.BAD;
        }
        int n = 0;
        for (int[] s : w.stations) {
            n += what == 0 ? s[0] : s[0] + s[1] + s[2];
        }
        return n;
    }

    int time(int a, int second, int b, int later) {
        if (!in(a, 0, 999) || !in(b, 0, 999) || b < a || !in(second, 0, 99999) || !in(later, 0, 99999) || later <= second) {
            return Due.BAD;
        }
        if (w.times.size() == 16) {
            return Due.FULL;
        }
        w.times.add(new int[] {a, second, b, later});
        return w.times.size() - 1;
    }

    int speed(int time) {
        if (!in(time, 0, w.times.size() - 1)) {
            return Due.BAD;
        }
        int[] t = w.times.get(time);
        return 3600 * (t[2] - t[0]) / (t[3] - t[1]);
    }

    int races(int v) {
        if (v < 0) {
            return Due.BAD;
        }
        int n = 0;
        for (int i = 0; i < w.times.size(); i++) {
            n += speed(i) > v ? 1 : 0;
        }
        return n;
    }

    int test(int test, int sort, int n) {
        if (!in(test, 0, 5) || !in(sort, -1, 1) || sort != -1 && n > 24) {
            return Due.BAD;
        }
        if (sort == -1) {
            rows[test] = null;
            return 0;
        }
        if (n < 0) {
            return Due.SIZE;
        }
        rows[test] = new Integer[n];
        java.util.Arrays.fill(rows[test], 0);
        sorts[test] = sort;
        return n;
    }

    private int off(int test, int place) {
        if (!in(test, 0, 5)) {
            return Due.BAD;
        }
        if (rows[test] == null) {
            return Due.NOTHING;
        }
        return in(place, 0, rows[test].length - 1) ? 0 : Due.INDEX;
    }

    int put(int test, int place, int v) {
        int off = off(test, place);
        if (off != 0) {
            return off;
        }
        if (sorts[test] == 1 && v == Due.NONE) {
            return Due.KIND;
        }
        if (sorts[test] == 0 && v != Due.NONE && !in(v, -100000, 100000)) {
            return Due.BAD;
        }
        rows[test][place] = sorts[test] == 1 ? Integer.valueOf((short) v) : v == Due.NONE ? null : Integer.valueOf(v);
        return 1;
    }

    int read(int test, int place) {
        int off = off(test, place);
        if (off != 0) {
            return off;
        }
        if (rows[test][place] != null) {
            return rows[test][place];
        }
        int sum = 0;
        int n = 0;
        for (Integer v : rows[test]) {
            sum += v == null ? 0 : v;
            n += v == null ? 0 : 1;
        }
        return n == 0 ? Due.KIND : sum / n;
    }

    int copy(int from, int place, int to, int at, int many) {
        if (!in(from, 0, 5) || !in(to, 0, 5)) {
            return Due.BAD;
        }
        if (rows[from] == null || rows[to] == null) {
            return Due.NOTHING;
        }
        if (sorts[from] != sorts[to]) {
            return Due.KIND;
        }
        if (many < 0 || place < 0 || at < 0 || (long) place + many > rows[from].length || (long) at + many > rows[to].length) {
            return Due.INDEX;
        }
        Integer[] was = rows[from].clone();
        for (int i = 0; i < many; i++) {
            rows[to][at + i] = was[place + i];
        }
        return many;
    }

    int strap(int part) {
        if (!isPart(part)) {
            return Due.BAD;
        }
        if (!w.parts.get(part).tie()) {
            return Due.KIND;
        }
        if (w.straps.contains(part)) {
            return Due.NO;
        }
        if (w.straps.size() == 8) {
            return Due.FULL;
        }
        w.straps.add(part);
        return w.straps.size();
    }

    int straps(int k, int what) {
        if (!in(k, 0, 8) || !in(what, 0, 1)) {
            return Due.BAD;
        }
        int best = 0;
        int most = -2;
        for (int size = 0; size <= k; size++) {
            for (int set = 0; set < 1 << w.straps.size(); set++) {
                if (Integer.bitCount(set) == size) {
                    World tried = w.copy();
                    for (int i = 0; i < w.straps.size(); i++) {
                        if ((set & 1 << i) != 0) {
                            tried.parts.get(w.straps.get(i)).slack = 0;
                        }
                    }
                    int safe = tried.safe();
                    if (safe > most) {
                        most = safe;
                        best = set;
                    }
                }
            }
        }
        return what == 0 ? most : best;
    }

    int tell(int v) {
        if (waiting.size() == 60) {
            return Due.FULL;
        }
        waiting.add(v);
        return waiting.size();
    }

    int check(int n) {
        List<Integer> told = new ArrayList<>(waiting);
        waiting.clear();
        if (!in(n, 1, 30)) {
            return Due.BAD;
        }
        if (image == null) {
            return Due.NO;
        }
        List<Integer> due = nightTold(n);
        if (told.equals(due)) {
            return 0;
        }
        int same = 0;
        while (same < told.size() && same < due.size() && told.get(same).equals(due.get(same))) {
            same++;
        }
        return 1 + same;
    }

    /** What check holds the numbers against; null without an image. */
    List<Integer> nightTold(int n) {
        if (image == null) {
            return null;
        }
        List<Integer> due = new ArrayList<>();
        World night = image.copy();
        night.startNight();
        for (int s = 0; s < n; s++) {
            night.second(s);
            due.add(night.gone());
            due.add(night.downs());
        }
        return due;
    }

    int keep() {
        image = w.copy();
        return w.month;
    }

    int back() {
        if (image == null) {
            return Due.NO;
        }
        w = image.copy();
        return w.month;
    }

    int count(int what) {
        if (!in(what, 0, 15)) {
            return Due.BAD;
        }
        int pieces = 0;
        int found = 0;
        for (Piece p : w.parts) {
            pieces += p.kind == 4 ? 1 : 0;
            found += p.found;
        }
        return new int[] {w.count, w.downs(), w.parts.size(), w.gone(), pieces, found, w.texts.size(), w.words.size(),
            w.stations.size(), w.times.size(), w.straps.size(), waiting.size(), tape.length(), w.month, w.trainOn,
            w.trainDown ? 1 : 0}[what];
    }
}
