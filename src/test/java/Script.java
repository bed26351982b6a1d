import java.lang.reflect.Method;
import java.util.ArrayList;
import java.util.Arrays;
import java.util.HashMap;
import java.util.List;
import java.util.Map;

/**
 * Runs of calls on a new object, written down with what is due: "spans 1 = BAD; spans 2 = 4; 8 x word @ 0 1 0 = @".
 *
 * Of every call that is refused it is looked at, too, that it changed nothing: all that later calls show is held against
 * an object that had the same calls but for that one. So it is with all calls that only ask.
 *
 * In a statement @ is how often it has been repeated; law 'wind 5' 0 brings a text to the tape and reads it from month 0
 * on, type 'wind 5' only brings it.
 */
final class Script {
    private static final int MOST_CALLS = 512;
    private static final List<String> ASKING = Arrays.asList("has", "told", "as", "pull", "load", "bears", "first", "next", "safe",
        "of", "why", "rules", "trust", "judged", "fast", "fits", "best", "doubt", "flawed", "knew", "blind", "must", "aboard",
        "speed", "races", "read", "straps", "count");
    private static final Map<String, Method> METHODS = new HashMap<>();
    private static final List<List<Call>> VIEWS = new ArrayList<>();

    private static final class Call {
        private final String name;
        private final Object[] arguments;
        private final Integer due;

        private Call(String name, int[] arguments, Integer due) {
            this.name = name;
            this.arguments = Arrays.stream(arguments).boxed().toArray();
            this.due = due;
        }

        private int on(GaleBridge x) {
            Method method = METHODS.get(name + arguments.length);
            if (method == null) {
                throw new IllegalArgumentException("no such call: " + this);
            }
            try {
                return (Integer) method.invoke(x, arguments);
            } catch (ReflectiveOperationException e) {
                throw new IllegalStateException(this + " threw", e);
            }
        }

        @Override
        public String toString() {
            return name + Arrays.toString(arguments);
        }
    }

    static {
        for (Method method : GaleBridge.class.getMethods()) {
            METHODS.put(method.getName() + method.getParameterCount(), method);
        }
        String bridge = "16 x count @; 48 x has @/4 @-@/4*4; span -1 0 0; span -1 1 0; shake 0";
        String night = "60 x night @; trim 0";
        String texts = "36 x of @/3 @-@/3*3; 4 x why @; 4 x rules @ 0 0 0; 4 x rules @ 7 3 2; 4 x rules @ -9 99 1; 9 x months 60 0; 4 x why @";
        String told = "96 x told @/12 @-@/12*12; 160 x told 8+@/5 4+@-@/5*5; 32 x told 8+@ 2";
        String rest = "40 x doubt @; fits; best; 2 x flawed @; 2 x aboard @; 16 x speed @; races 0; 18 x straps @/2 @-@/2*2; 40 x strap @";
        String gale = "60 x gust @ 0; 16 x story @/2 @-@/2*2 0";
        String words = "80 x knew @/10 @-@/10*10 9999; 10 x blind @; 80 x saw @/10 @-@/10*10 9999";
        String days = "law 'tell 1' 0; 100 x must @/10 (@-@/10*10)*7; 10 x must @ 9999";
        String[] kept = {bridge, night, texts, told, rest, gale, words, days};
        for (String view : kept) {
            VIEWS.add(parse(view));
            VIEWS.add(parse("back; " + view));
        }
        VIEWS.add(parse("60 x night @; count 1; count 3; 40 x told @ 8"));
        VIEWS.add(parse("30 x night 2*@; 1 x count 14; 13 x count @"));
        VIEWS.add(parse("144 x read @/24 @-@/24*24; 6 x copy @ 0 @ 0 1; 6 x put @ 0 4; 6 x read @ 0"));
        VIEWS.add(parse("count 12; text 0; count 6; 36 x of @/3 @-@/3*3; 4 x rules @ 5 6 7"));
        VIEWS.add(parse("count 11; check 30; count 11; check 1"));
        for (int second = 0; second < 60; second += 7) {
            VIEWS.add(parse("night " + second + "; count 14; count 15"));
            VIEWS.add(parse("back; night " + second + "; count 14; count 15"));
        }
    }

    private Script() {
    }

    /** One sentence of the document, and a run of calls that would go otherwise if the sentence were broken. */
    static void holds(String sentence, String... lines) {
        Due.about(sentence);
        List<Call> calls = parse(String.join(";", lines));
        answers(calls);
        for (int i = 0; i < calls.size(); i++) {
            if (isRefused(calls.get(i))) {
                List<Call> with = new ArrayList<>(calls.subList(0, i + 1));
                same("refused, and yet it changed: " + calls.get(i), with, without(with));
            }
        }
        List<Call> acting = new ArrayList<>(calls);
        acting.removeIf(call -> ASKING.contains(call.name));
        same("a call that only asks changed something", calls, acting);
    }

    /** As holds, for runs that are too long to look at all behind them. */
    static void answers(String sentence, String... lines) {
        Due.about(sentence);
        answers(parse(String.join(";", lines)));
    }

    private static void answers(List<Call> calls) {
        Due.is("a run of 512 calls at most: " + calls.size(), calls.size() <= MOST_CALLS ? 1 : 0, 1);
        GaleBridge x = new GaleBridge();
        for (Call call : calls) {
            int got = call.on(x);
            if (call.due != null) {
                Due.is(call.toString(), got, call.due);
            }
        }
    }

    private static boolean isRefused(Call call) {
        if (call.due == null || ASKING.contains(call.name)) {
            return false;
        }
        boolean fault = call.name.equals("text") && call.due <= -100;
        return fault || call.due <= GaleBridge.BAD && call.due >= GaleBridge.SIZE && call.due != GaleBridge.NONE;
    }

    /** The run without its last call, but that text uses up the tape, and check the numbers that wait, whatever is answered. */
    private static List<Call> without(List<Call> calls) {
        int last = calls.size() - 1;
        List<Call> rest = new ArrayList<>(calls.subList(0, last));
        if (calls.get(last).name.equals("text")) {
            rest.add(new Call("trim", new int[] {0}, null));
        } else if (calls.get(last).name.equals("check")) {
            rest.removeIf(call -> call.name.equals("tell") || call.name.equals("check"));
        }
        return rest;
    }

    private static void same(String what, List<Call> one, List<Call> other) {
        for (List<Call> view : VIEWS) {
            if (one.size() + view.size() > MOST_CALLS) {
                Due.is("a run of 512 calls at most, with what is looked at", one.size() + view.size(), MOST_CALLS);
            }
            GaleBridge x = after(one);
            GaleBridge y = after(other);
            for (Call call : view) {
                int got = call.on(x);
                int due = call.on(y);
                if (got != due) {
                    Due.is(what + ", as is seen by " + call, got, due);
                    return;
                }
            }
        }
        Due.is(what, 0, 0);
    }

    private static GaleBridge after(List<Call> calls) {
        GaleBridge x = new GaleBridge();
        for (Call call : calls) {
            call.on(x);
        }
        return x;
    }

    private static List<Call> parse(String lines) {
        List<Call> calls = new ArrayList<>();
        for (String statement : lines.split(";(?=(?:[^']*'[^']*')*[^']*$)")) {
            if (statement.isBlank()) {
                continue;
            }
            String[] words = statement.trim().split(" +", 3);
            boolean repeated = words.length == 3 && words[1].equals("x");
            int times = repeated ? Integer.parseInt(words[0]) : 1;
            for (int i = 0; i < times; i++) {
                add(calls, repeated ? words[2] : statement.trim(), i);
            }
        }
        return calls;
    }

    private static void add(List<Call> calls, String statement, int at) {
        String text = "";
        String rest = statement;
        int quote = statement.indexOf('\'');
        if (quote >= 0) {
            text = statement.substring(quote + 1, statement.lastIndexOf('\''));
            rest = statement.substring(0, quote) + statement.substring(statement.lastIndexOf('\'') + 1);
        }
        String[] sides = rest.split(" = ");
        String[] words = sides[0].trim().split(" +");
        Integer due = sides.length < 2 ? null : value(sides[1].trim(), at);
        int[] arguments = new int[words.length - 1];
        for (int i = 0; i < arguments.length; i++) {
            arguments[i] = value(words[i + 1], at);
        }
        if (quote >= 0) {
            type(calls, text);
        }
        if (words[0].equals("law")) {
            calls.add(new Call("text", arguments, due));
        } else if (!words[0].equals("type")) {
            calls.add(new Call(words[0], arguments, due));
        }
    }

    private static void type(List<Call> calls, String text) {
        for (int i = 0; i < text.length(); i += 12) {
            int[] fed = new int[3];
            for (int j = 0; j < 12; j++) {
                fed[j / 4] = fed[j / 4] << 8 | (i + j < text.length() ? text.charAt(i + j) : 0);
            }
            calls.add(new Call("feed", fed, i + 12));
        }
        calls.add(new Call("trim", new int[] {text.length()}, text.length()));
    }

    // ---- sums of numbers, names and @

    private static int value(String sum, int at) {
        return new Sum(sum, at).all();
    }

    private static final class Sum {
        private final String text;
        private final int at;
        private int place = 0;

        private Sum(String text, int at) {
            this.text = text;
            this.at = at;
        }

        private int all() {
            int v = sum();
            if (place != text.length()) {
                throw new IllegalArgumentException("no sum: " + text);
            }
            return v;
        }

        private boolean next(char c) {
            boolean there = place < text.length() && text.charAt(place) == c;
            place += there ? 1 : 0;
            return there;
        }

        private int sum() {
            int v = next('-') ? -product() : product();
            while (true) {
                if (next('+')) {
                    v += product();
                } else if (next('-')) {
                    v -= product();
                } else {
                    return v;
                }
            }
        }

        private int product() {
            int v = atom();
            while (true) {
                if (next('*')) {
                    v *= atom();
                } else if (next('/')) {
                    v /= atom();
                } else {
                    return v;
                }
            }
        }

        private int atom() {
            if (next('@')) {
                return at;
            }
            if (next('(')) {
                int v = sum();
                next(')');
                return v;
            }
            int from = place;
            while (place < text.length() && Character.isLetterOrDigit(text.charAt(place))) {
                place++;
            }
            return named(text.substring(from, place));
        }

        private static int named(String word) {
            switch (word) {
                case "BAD":
                    return Due.BAD;
                case "NO":
                    return Due.NO;
                case "FULL":
                    return Due.FULL;
                case "NONE":
                    return Due.NONE;
                case "NOTHING":
                    return Due.NOTHING;
                case "KIND":
                    return Due.KIND;
                case "INDEX":
                    return Due.INDEX;
                case "SIZE":
                    return Due.SIZE;
                case "LOW":
                    return Due.LOW;
                case "HIGH":
                    return Due.HIGH;
                default:
                    return Integer.parseInt(word);
            }
        }
    }
}
