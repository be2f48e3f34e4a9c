import java.lang.reflect.Method;
import java.nio.file.Files;
import java.nio.file.Path;
import java.util.ArrayList;
import java.util.List;
import java.util.Set;
import java.util.TreeSet;
import java.util.regex.Matcher;
import java.util.regex.Pattern;
import java.util.stream.Stream;

/** Holds README.md to the class: its run of calls, each with its answer, and its table of tests. */
public final class ReadmeTest {
    private static final Pattern BLOCK = Pattern.compile("```java\n(.*?)```", Pattern.DOTALL);
    private static final Pattern CALL = Pattern.compile("office\\.(\\w+)\\(([^()]*)\\); +// (true|false|-?\\d+)(: .*)?");

    private static int number(String word) {
        return word.equals("StrikeOut.NONE") ? StrikeOut.NONE : (int) (long) Long.decode(word);
    }

    private static Method method(String name, int parameters) {
        for (Method m : StrikeOut.class.getMethods()) if (m.getName().equals(name) && m.getParameterCount() == parameters) return m;
        return null;
    }

    private static void call(StrikeOut office, Matcher line) throws Exception {
        String[] words = line.group(2).isEmpty() ? new String[0] : line.group(2).split(", ");
        Object[] given = new Object[words.length];
        for (int k = 0; k < words.length; k++) given[k] = number(words[k]);
        Method m = method(line.group(1), words.length);
        if (m == null) {
            Due.fault("no such method: " + line.group());
            return;
        }
        String got = String.valueOf(m.invoke(office, given));
        Due.is(line.group() + " (answered " + got + ")", true, got.equals(line.group(3)));
        if (m.getName().equals("feed")) quoted(given, line.group());
    }

    /** A text in quotes behind feed() is what its bytes begin with. */
    private static void quoted(Object[] given, String line) {
        StringBuilder bytes = new StringBuilder();
        for (Object number : given) for (int shift = 24; shift >= 0; shift -= 8) bytes.append((char) ((Integer) number >> shift & 255));
        Matcher text = Pattern.compile("\"(.*)\"").matcher(line);
        Due.is(line + " quotes its text", true, text.find() && bytes.toString().startsWith(text.group(1)));
    }

    private static void run(String readme) throws Exception {
        Due.sentence("README.md: a run of calls with its answers");
        Matcher block = BLOCK.matcher(readme);
        Due.is("there is a run", true, block.find());
        String[] lines = block.group(1).split("\n");
        Due.is("it makes an office", true, lines[0].equals("StrikeOut office = new StrikeOut();"));
        StrikeOut office = new StrikeOut();
        for (int k = 1; k < lines.length; k++) {
            Matcher line = CALL.matcher(lines[k]);
            if (line.matches()) call(office, line);
            else Due.fault("no call with an answer: " + lines[k]);
        }
        Due.is("it is short, but a run", true, lines.length > 10 && lines.length < 40);
        Due.is("it is the only one", false, block.find());
    }

    private static void table(String readme) throws Exception {
        Due.sentence("README.md: how its tests are run");
        Due.is(".ci/run", true, readme.contains("\n.ci/run\n") && Files.isExecutable(Path.of(".ci/run")));
        Set<String> told = new TreeSet<>();
        Matcher row = Pattern.compile("\\| `src/test/java/(\\w+\\.java)` \\|").matcher(readme);
        while (row.find()) told.add(row.group(1));
        List<String> there = new ArrayList<>();
        try (Stream<Path> files = Files.list(Path.of("src/test/java"))) { files.forEach(f -> there.add(f.getFileName().toString())); }
        Due.is("the table has each test: " + told + ", there are " + there, true, told.equals(new TreeSet<>(there)));
        try (Stream<Path> files = Files.list(Path.of("src/test/helpers"))) {
            files.forEach(f -> Due.is("it tells " + f, true, readme.contains("`" + f.getFileName().toString().replace(".java", "") + "`")));
        }
    }

    public static void main(String[] args) throws Exception {
        String readme = Files.readString(Path.of("README.md"));
        run(readme);
        table(readme);
        Due.end();
    }
}
