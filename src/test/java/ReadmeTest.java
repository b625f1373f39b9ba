import java.io.IOException;
import java.lang.reflect.InvocationTargetException;
import java.lang.reflect.Method;
import java.lang.reflect.Modifier;
import java.net.URL;
import java.net.URLClassLoader;
import java.nio.file.DirectoryStream;
import java.nio.file.Files;
import java.nio.file.Path;
import java.util.ArrayList;
import java.util.Comparator;
import java.util.List;
import java.util.Map;
import java.util.Set;
import java.util.TreeSet;
import java.util.regex.Matcher;
import java.util.regex.Pattern;
import java.util.stream.Collectors;
import java.util.stream.Stream;
import javax.tools.JavaCompiler;
import javax.tools.ToolProvider;

/**
 * What README.md shows is so: its java parts, one behind the other, are compiled as one program and run,
 * each call's answer against the one that stands behind it; and its table names every test there is.
 */
public final class ReadmeTest {
    private static final Pattern BLOCK = Pattern.compile("(?s)```java\n(.*?)```");
    private static final Pattern CALL =
        Pattern.compile("(x\\.(\\w+)\\([^;]*\\));\\s*// (-?[0-9]+|NONE|UNKNOWN|OUTSIDE|NOT|FULL)(?::.*)?");
    private static final Pattern ROW = Pattern.compile("(?m)^\\| (`[^|]*`) \\|");
    private static final Pattern NAME = Pattern.compile("`(\\w+)`");

    private static final Map<String, Integer> REFUSALS = Map.of("NONE", Check.NONE, "UNKNOWN", Check.UNKNOWN,
        "OUTSIDE", Check.OUTSIDE, "NOT", Check.NOT, "FULL", Check.FULL);

    private static final Check CHECK = new Check();

    /** A call that README shows, with the answer that stands behind it. */
    private record Shown(String name, String call, int due) {
    }

    public static void main(String[] args) throws IOException, ReflectiveOperationException {
        String readme = Files.readString(Path.of(System.getProperty("lentdrains.readme", "README.md")));
        List<Shown> shown = new ArrayList<>();
        String program = programOf(readme, shown);
        List<Integer> answers = answersOf(program);
        CHECK.is("calls of README that were answered", answers.size(), shown.size());
        for (int i = 0; i < answers.size() && i < shown.size(); i++) {
            CHECK.is("README's " + shown.get(i).call(), answers.get(i), shown.get(i).due());
        }
        everyCallIsShown(shown);
        everyTestIsNamed(readme);
        CHECK.end();
    }

    /** The java parts as one program, in which each call's answer is put into a list. */
    private static String programOf(String readme, List<Shown> shown) {
        StringBuilder program = new StringBuilder(
            "public final class Program {\npublic static void run(java.util.List<Integer> answers) {\n");
        Matcher block = BLOCK.matcher(readme);
        while (block.find()) {
            for (String line : block.group(1).split("\n")) {
                Matcher call = CALL.matcher(line);
                if (call.matches()) {
                    shown.add(new Shown(call.group(2), call.group(1), dueOf(call.group(3))));
                    program.append("answers.add(").append(call.group(1)).append(");\n");
                } else {
                    CHECK.is("README's '" + line + "' shows an answer or is no call", line.startsWith("x.") ? 0 : 1, 1);
                    program.append(line).append('\n');
                }
            }
        }
        return program.append("}\n}\n").toString();
    }

    private static int dueOf(String word) {
        return REFUSALS.containsKey(word) ? REFUSALS.get(word) : Integer.parseInt(word);
    }

    private static List<Integer> answersOf(String program) throws IOException, ReflectiveOperationException {
        Path work = Files.createTempDirectory("readme");
        try {
            Path source = Files.writeString(work.resolve("Program.java"), program);
            JavaCompiler javac = ToolProvider.getSystemJavaCompiler();
            int ended = javac.run(null, System.out, System.out,
                "-cp", System.getProperty("java.class.path"), "-d", work.toString(), source.toString());
            CHECK.is("javac over what README shows", ended, 0);
            return ended == 0 ? answersOf(work) : List.of();
        } finally {
            removeAll(work);
        }
    }

    private static List<Integer> answersOf(Path classes) throws IOException, ReflectiveOperationException {
        List<Integer> answers = new ArrayList<>();
        URL[] place = {classes.toUri().toURL()};
        try (URLClassLoader loader = new URLClassLoader(place, ReadmeTest.class.getClassLoader())) {
            loader.loadClass("Program").getMethod("run", List.class).invoke(null, answers);
        } catch (InvocationTargetException thrown) {
            CHECK.same("what README shows", String.valueOf(thrown.getCause()), "nothing thrown");
        }
        return answers;
    }

    private static void removeAll(Path work) throws IOException {
        try (Stream<Path> all = Files.walk(work)) {
            List<Path> inward = all.sorted(Comparator.reverseOrder()).collect(Collectors.toList());
            for (Path path : inward) {
                Files.delete(path);
            }
        }
    }

    private static void everyCallIsShown(List<Shown> shown) {
        Set<String> names = new TreeSet<>();
        for (Shown call : shown) {
            names.add(call.name());
        }
        for (Method m : LentDrains.class.getDeclaredMethods()) {
            if (Modifier.isPublic(m.getModifiers())) {
                CHECK.is("README shows " + m.getName() + "()", names.contains(m.getName()) ? 1 : 0, 1);
            }
        }
    }

    private static void everyTestIsNamed(String readme) throws IOException {
        Set<String> named = new TreeSet<>();
        Matcher row = ROW.matcher(readme);
        while (row.find()) {
            Matcher name = NAME.matcher(row.group(1));
            while (name.find()) {
                named.add(name.group(1));
            }
        }
        Set<String> there = new TreeSet<>();
        Path tests = Path.of(System.getProperty("lentdrains.tests", "src/test/java"));
        try (DirectoryStream<Path> files = Files.newDirectoryStream(tests, "*Test.java")) {
            for (Path file : files) {
                there.add(file.getFileName().toString().replace(".java", ""));
            }
        }
        CHECK.same("tests that README's table names", named.toString(), there.toString());
    }
}
