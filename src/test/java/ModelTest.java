import java.lang.reflect.Method;
import java.util.ArrayList;
import java.util.Arrays;
import java.util.List;
import java.util.Random;

/** Random runs of calls, each answer held against that of Model. The seeds are fixed: each run is always the same. */
public final class ModelTest {
    private static final int RUNS = 1500;

    /** Of each call how often it comes, and from .. to of each argument; what is below or above comes now and then. */
    private static final String[] CALLS = {
        "spans 1 2..12", "span 6 -1..11 0..1 0..99", "has 3 0..11 0..3", "train 4 0..11",
        "part 14 0..3 0..12 1..999 1..9 0..5", "piece 4 0..12 0..5 0..1", "told 6 0..39 0..11", "as 3 0..39 0..4",
        "be 8 0..39 4..5 0..99", "raise 2", "pull 3 0..12 0..99", "load 3 0..39 0..99", "bears 3 0..39", "first 4 0..99",
        "fall 3 0..99", "next 4 0..99 0..9", "safe 3",
        "feed 1 0..0 0..0 0..0", "trim 1 0..96", "text 1 0..599", "of 2 0..11 0..2", "why 2 0..3",
        "rules 4 0..3 0..99 0..99 0..99",
        "months 2 1..9 0..999", "shake 1 0..99", "trust 3 0..39 0..999", "gust 6 0..59 0..99", "runs 3 0..59 1..20",
        "night 3 0..59", "judged 3 0..12", "fast 3 0..120 0..99",
        "story 5 0..7 0..1 0..63", "find 4 0..39 0..1", "fits 2", "best 3", "doubt 3 0..39", "flawed 2 0..1",
        "word 6 0..9 0..7 0..7 0..9", "saw 3 0..7 0..9 0..9", "knew 4 0..7 0..9 0..9", "blind 3 0..9", "must 3 0..9 0..9",
        "station 1 0..999 0..999 0..999", "aboard 1 0..1", "time 2 0..999 0..50000 0..999 0..99999", "speed 2 0..15",
        "races 2 0..500",
        "test 3 0..5 -1..1 0..24", "put 6 0..5 0..23 -100000..100000", "read 5 0..5 0..23", "copy 4 0..5 0..9 0..5 0..9 0..9",
        "strap 4 0..39", "straps 1 0..8 0..1",
        "tell 1 0..9", "check 1 1..30", "keep 1", "back 1", "count 6 0..15"};

    private static final int[] FAR = {Due.NONE, Due.BAD, Due.LOW, Due.HIGH, -1, 0, 1, -2, 65536};

    private final Random random;
    private final GaleBridge x = new GaleBridge();
    private final Model model = new Model();
    private final List<String> told = new ArrayList<>();
    /** How seldom an argument is out of its bounds, and how many matters, days and parts there are, in this run. */
    private final int seldom;
    private final int spread;

    private ModelTest(long seed) {
        random = new Random(seed);
        seldom = 4 + random.nextInt(60);
        spread = 1 + random.nextInt(40);
    }

    public static void main(String[] args) throws ReflectiveOperationException {
        int runs = args.length > 0 ? Integer.parseInt(args[0]) : RUNS;
        int from = args.length > 1 ? Integer.parseInt(args[1]) : 0;
        Due.about("random runs");
        int bad = 0;
        for (int seed = from; seed < from + runs && bad < 5; seed++) {
            ModelTest run = new ModelTest(seed);
            boolean same = run.goes();
            bad += same ? 0 : 1;
            Due.is("run " + seed, same ? 1 : 0, 1);
        }
        Due.end("ModelTest");
    }

    private boolean goes() throws ReflectiveOperationException {
        List<String> bag = new ArrayList<>();
        for (String call : CALLS) {
            String[] words = call.split(" ");
            int often = Integer.parseInt(words[1]) * (random.nextInt(3) == 0 ? 4 : 1);
            for (int i = 0; i < often; i++) {
                bag.add(call);
            }
        }
        if (random.nextInt(3) > 0 && !asked("spans", 2 + random.nextInt(11))) {
            return false;
        }
        for (int i = 0; i < 500; i++) {
            boolean same;
            int luck = random.nextInt(40);
            if (luck == 0) {
                same = types();
            } else if (luck == 1) {
                same = tells();
            } else {
                String[] words = bag.get(random.nextInt(bag.size())).split(" ");
                int[] arguments = new int[words.length - 2];
                for (int j = 0; j < arguments.length; j++) {
                    arguments[j] = argument(words[j + 2]);
                }
                same = asked(words[0], arguments);
            }
            if (!same) {
                return false;
            }
        }
        return true;
    }

    private int argument(String bounds) {
        int dots = bounds.indexOf("..");
        int low = Integer.parseInt(bounds.substring(0, dots));
        int high = Integer.parseInt(bounds.substring(dots + 2));
        if (random.nextInt(seldom) == 0) {
            switch (random.nextInt(4)) {
                case 0:
                    return low - 1;
                case 1:
                    return high + 1;
                case 2:
                    return random.nextInt();
                default:
                    return FAR[random.nextInt(FAR.length)];
            }
        }
        if (high == 39 || high == 12 && low == 0 || high == 11 && low <= 0) {
            high = Math.min(high, Math.max(low, model.count(high == 39 ? 2 : 0) - 1 + random.nextInt(2)));
        } else if (high == 9 && low == 0) {
            high = Math.min(high, spread);
        } else if (high == 999 && low == 1 && random.nextInt(3) > 0) {
            high = 20 * spread;
        }
        return random.nextInt(20) == 0 ? (random.nextBoolean() ? low : high) : low + random.nextInt(high - low + 1);
    }

    private boolean asked(String name, int... arguments) throws ReflectiveOperationException {
        Class<?>[] types = new Class<?>[arguments.length];
        Object[] boxed = new Object[arguments.length];
        for (int i = 0; i < arguments.length; i++) {
            types[i] = int.class;
            boxed[i] = arguments[i];
        }
        Method theirs = Model.class.getDeclaredMethod(name, types);
        int due = (Integer) theirs.invoke(model, boxed);
        int got = (Integer) GaleBridge.class.getMethod(name, types).invoke(x, boxed);
        told.add(name + Arrays.toString(arguments) + " " + got);
        if (got != due) {
            System.out.println(String.join("\n", told.subList(Math.max(0, told.size() - 12), told.size())));
            System.out.println("due is " + due);
        }
        return got == due;
    }

    /** A text that is mostly right comes to the tape, and is read. */
    private boolean types() throws ReflectiveOperationException {
        int key = random.nextInt(4);
        StringBuilder text = new StringBuilder(Model.KEYS[key]).append(' ');
        sum(text, key, 0);
        for (int i = random.nextInt(6) - 3; i > 0; i--) {
            int at = random.nextInt(text.length());
            String signs = "!()<=>&|+-*/ 0123456789pmwgsfkoxz" + (char) 200;
            if (random.nextBoolean()) {
                text.setCharAt(at, signs.charAt(random.nextInt(signs.length())));
            } else if (random.nextBoolean()) {
                text.insert(at, signs.charAt(random.nextInt(signs.length())));
            } else {
                text.deleteCharAt(at);
            }
        }
        if (random.nextInt(6) == 0) {
            text.insert(0, " ");
        }
        text.setLength(Math.min(96, text.length()));
        if (!asked("trim", 0)) {
            return false;
        }
        for (int i = 0; i < text.length(); i += 12) {
            int[] fed = new int[3];
            for (int j = 0; j < 12; j++) {
                fed[j / 4] = fed[j / 4] << 8 | (i + j < text.length() ? text.charAt(i + j) : 0);
            }
            if (!asked("feed", fed)) {
                return false;
            }
        }
        told.add("[" + text + "]");
        return asked("trim", text.length()) && asked("text", random.nextInt(30) == 0 ? 600 : random.nextInt(1 + spread));
    }

    private void sum(StringBuilder text, int key, int depth) {
        int luck = random.nextInt(depth > 12 ? 2 : 8);
        if (random.nextInt(6) == 0) {
            text.append(' ');
        }
        if (luck == 0) {
            text.append(random.nextInt(random.nextInt(3) == 0 ? 20000 : 100));
        } else if (luck <= 2) {
            text.append(Model.NAMES[key].charAt(random.nextInt(Model.NAMES[key].length())));
        } else if (luck == 3) {
            text.append('!');
            sum(text, key, depth + 1);
        } else if (luck == 4) {
            text.append('(');
            sum(text, key, depth + 1);
            text.append(')');
        } else {
            sum(text, key, depth + 2);
            text.append("<=>&|+-*/&|+-*/".charAt(random.nextInt(15)));
            sum(text, key, depth + 2);
        }
    }

    /** The night as it is due is told, mostly right, and checked. */
    private boolean tells() throws ReflectiveOperationException {
        int n = 1 + random.nextInt(30);
        List<Integer> due = model.nightTold(n);
        if (due == null) {
            return asked("keep");
        }
        int wrong = random.nextInt(3 * due.size());
        int many = random.nextInt(4) == 0 ? random.nextInt(due.size() + 1) : due.size();
        for (int i = 0; i < many; i++) {
            if (!asked("tell", due.get(i) + (i == wrong ? 1 : 0))) {
                return false;
            }
        }
        return asked("check", random.nextInt(6) == 0 ? Math.max(1, n - 1) : n);
    }
}
