import java.io.IOException;
import java.lang.reflect.Field;
import java.lang.reflect.Method;
import java.lang.reflect.Modifier;
import java.nio.charset.StandardCharsets;
import java.nio.file.Files;
import java.nio.file.Path;
import java.util.Arrays;
import java.util.Set;
import java.util.TreeSet;

/** The public face of the document, and those rules of LANGUAGE.md that a machine can look at. */
public final class LanguageTest {
    private static final String FACE = "spans 1 span 3 has 2 train 1 part 5 piece 3 told 2 as 2 be 3 raise 0 pull 2 load 2 bears 1 "
        + "first 1 fall 1 next 2 safe 0 feed 3 trim 1 text 1 of 2 why 1 rules 4 months 2 shake 1 trust 2 gust 2 runs 2 night 1 "
        + "judged 1 fast 2 story 3 find 2 fits 0 best 0 doubt 1 flawed 1 word 4 saw 3 knew 3 blind 1 must 2 station 3 aboard 1 "
        + "time 4 speed 1 races 1 test 3 put 3 read 2 copy 5 strap 1 straps 2 tell 1 check 1 keep 0 back 0 count 1";

    private static final String[] FORBIDDEN = {"throw", "throws", "try", "catch", "finally", "synchronized", "assert", "import",
        "package", "volatile", "native", "transient", "float", "double", "System.out", "Exact(", "->", "::", "/*@", "var"};

    public static void main(String[] args) throws IOException {
        face();
        constants();
        inside();
        String code = bare(Files.readString(Path.of("src/main/java/GaleBridge.java"), StandardCharsets.ISO_8859_1));
        words(code);
        objects(code);
        lengths(code);
        Due.end("LanguageTest");
    }

    private static void yes(String what, boolean so) {
        Due.is(what, so ? 1 : 0, 1);
    }

    private static void face() {
        Due.about("the public face");
        yes("public and final", Modifier.isPublic(GaleBridge.class.getModifiers()) && Modifier.isFinal(GaleBridge.class.getModifiers()));
        String[] words = FACE.split(" ");
        Set<String> due = new TreeSet<>();
        for (int i = 0; i < words.length; i += 2) {
            due.add(words[i] + " " + words[i + 1]);
        }
        Set<String> got = new TreeSet<>();
        for (Method m : GaleBridge.class.getDeclaredMethods()) {
            if (!Modifier.isPrivate(m.getModifiers())) {
                boolean ints = m.getReturnType() == int.class && Arrays.stream(m.getParameterTypes()).allMatch(t -> t == int.class);
                yes(m + " is a public one of ints", ints && m.getModifiers() == Modifier.PUBLIC);
                got.add(m.getName() + " " + m.getParameterCount());
            }
        }
        yes("methods " + got + " as " + due, got.equals(due) && got.size() == 58);
        yes("one constructor", GaleBridge.class.getDeclaredConstructors().length == 1 && GaleBridge.class.getConstructors().length == 1
            && GaleBridge.class.getConstructors()[0].getParameterCount() == 0);
    }

    private static void constants() {
        Due.about("the constants");
        String names = "";
        for (Field f : GaleBridge.class.getDeclaredFields()) {
            if (!Modifier.isPrivate(f.getModifiers())) {
                names += f.getName() + " ";
                yes(f + " is a constant", f.getModifiers() == (Modifier.PUBLIC | Modifier.STATIC | Modifier.FINAL) && f.getType() == int.class);
            }
        }
        yes(names, names.equals("BAD NO FULL NONE NOTHING KIND INDEX SIZE "));
        Due.is("BAD", GaleBridge.BAD, -1000000001);
        Due.is("NO", GaleBridge.NO, -1000000002);
        Due.is("FULL", GaleBridge.FULL, -1000000003);
        Due.is("NONE", GaleBridge.NONE, -1000000005);
        Due.is("NOTHING", GaleBridge.NOTHING, -1000000011);
        Due.is("KIND", GaleBridge.KIND, -1000000012);
        Due.is("INDEX", GaleBridge.INDEX, -1000000013);
        Due.is("SIZE", GaleBridge.SIZE, -1000000014);
    }

    private static void inside() {
        Due.about("rules 1, 2, 5 and 11");
        Set<String> open = new TreeSet<>();
        for (Method m : GaleBridge.class.getMethods()) {
            if (m.getDeclaringClass() == GaleBridge.class) {
                open.add(m.getName());
            }
        }
        Class<?>[] classes = Arrays.copyOf(GaleBridge.class.getDeclaredClasses(), GaleBridge.class.getDeclaredClasses().length + 1);
        classes[classes.length - 1] = GaleBridge.class;
        yes("some twelve classes", classes.length <= 12);
        for (Class<?> c : classes) {
            boolean inner = c != GaleBridge.class;
            yes(c + " is static", !inner || Modifier.isStatic(c.getModifiers()) && Modifier.isPrivate(c.getModifiers()));
            int fields = 0;
            for (Field f : c.getDeclaredFields()) {
                boolean constant = Modifier.isStatic(f.getModifiers());
                yes(f + " is final", !constant || Modifier.isFinal(f.getModifiers()));
                fields += constant ? 0 : 1;
            }
            yes(c + " has some twenty fields", fields <= 20);
            for (Method m : c.getDeclaredMethods()) {
                yes(m + " takes seven at most", m.getParameterCount() <= 7);
                yes(m + " is written down", !m.isSynthetic());
                yes(m + " bears no public one's name", !Modifier.isPrivate(m.getModifiers()) && !inner || !open.contains(m.getName()));
            }
        }
    }

    /** The code without comments and without what stands in texts. */
    private static String bare(String code) {
        return code.replaceAll("(?s)/\\*.*?\\*/", "").replaceAll("//[^\n]*", "").replaceAll("\"[^\"\n]*\"", "\"\"");
    }

    private static void words(String code) {
        Due.about("rules 2, 3, 4 and 6");
        for (String word : FORBIDDEN) {
            boolean letters = word.matches("[a-z]+");
            boolean there = letters ? code.matches("(?s).*\\b" + word + "\\b.*") : code.contains(word);
            yes("no " + word, !there);
        }
        yes("signs 1 to 127", code.chars().allMatch(c -> c > 0 && c < 128));
        yes("no joining of texts by +", !code.contains("\"\" +") && !code.contains("+ \"\""));
    }

    private static void objects(String code) {
        Due.about("rule 12");
        for (String line : code.split("\n")) {
            if (line.matches(".*\\bnew\\b.*")) {
                boolean once = line.trim().startsWith("private final ") || line.trim().equals("parts[i] = new Part();");
                yes("made in a constructor alone: " + line.trim(), once);
            }
        }
    }

    private static void lengths(String code) {
        Due.about("rule 11");
        int from = -1;
        String[] lines = code.split("\n");
        for (int i = 0; i < lines.length; i++) {
            if (lines[i].matches(" +(public|private) .*\\) \\{")) {
                from = i;
            } else if (from >= 0 && lines[i].matches(" {4,8}\\}") && lines[i].length() == lines[from].indexOf('p') + 1) {
                yes("sixty lines at most: " + lines[from].trim(), i - from <= 60);
                from = -1;
            }
        }
    }
}
