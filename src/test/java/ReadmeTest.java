import java.io.IOException;
import java.nio.file.Files;
import java.nio.file.Path;
import java.util.ArrayList;
import java.util.List;
import java.util.Set;
import java.util.TreeSet;
import java.util.regex.Matcher;
import java.util.regex.Pattern;
import java.util.stream.Stream;

/** README.md: the calls that it shows give the answers that it tells of, and it names the command and each test. */
public final class ReadmeTest {
    private static final Pattern CALL = Pattern.compile("x\\.([a-z]+)\\(([-0-9, ]*)\\); +// (-?[0-9]+|[A-Z]+): .+");
    private static final String NEW = "GaleBridge x = new GaleBridge();";

    public static void main(String[] args) throws IOException {
        List<String> lines = Files.readAllLines(Path.of("README.md"));
        calls(lines);
        command(lines);
        tests(lines);
        Due.end("ReadmeTest");
    }

    private static void yes(String what, boolean so) {
        Due.is(what, so ? 1 : 0, 1);
    }

    /** Each block of code is a run of its own: a new object, and then nothing but calls with their answers. */
    private static void calls(List<String> lines) {
        List<String> run = null;
        int runs = 0;
        for (String line : lines) {
            if (line.equals("```java")) {
                run = new ArrayList<>();
            } else if (line.equals("```") && run != null) {
                runs++;
                ask("README.md, block " + runs, run);
                run = null;
            } else if (run != null) {
                run.add(line);
            }
        }
        Due.about("README.md");
        yes("each block of code ends", run == null);
        yes("there are blocks of code", runs > 0);
    }

    private static void ask(String which, List<String> lines) {
        Due.about(which);
        yes("begins with a new object", lines.size() > 1 && lines.get(0).equals(NEW));
        List<String> calls = new ArrayList<>();
        for (String line : lines.subList(Math.min(1, lines.size()), lines.size())) {
            Matcher call = CALL.matcher(line);
            boolean told = call.matches();
            yes("a call with its answer: " + line, told);
            if (told) {
                String arguments = call.group(2).replace(",", " ").trim();
                calls.add(call.group(1) + " " + arguments + " = " + call.group(3));
            }
        }
        Script.answers(which, calls.toArray(new String[0]));
    }

    private static void command(List<String> lines) {
        Due.about("README.md, the command");
        yes("names .ci/run as a line of its own", lines.contains("    .ci/run"));
        yes(".ci/run can be called", Files.isExecutable(Path.of(".ci/run")));
    }

    private static void tests(List<String> lines) throws IOException {
        Due.about("README.md, the list of tests");
        Set<String> there = new TreeSet<>();
        try (Stream<Path> files = Files.list(Path.of("src/test/java"))) {
            files.map(file -> file.getFileName().toString()).filter(name -> name.endsWith("Test.java"))
                .forEach(name -> there.add(name.substring(0, name.length() - ".java".length())));
        }
        Set<String> named = new TreeSet<>();
        Matcher name = Pattern.compile("`([A-Z][A-Za-z]*Test)`").matcher(String.join("\n", lines));
        while (name.find()) {
            named.add(name.group(1));
        }
        yes("named are " + named + ", there are " + there, named.equals(there));
    }
}
