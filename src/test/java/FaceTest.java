import java.io.IOException;
import java.lang.reflect.Constructor;
import java.lang.reflect.Field;
import java.lang.reflect.Method;
import java.lang.reflect.Modifier;
import java.nio.file.Files;
import java.nio.file.Path;
import java.util.Set;
import java.util.TreeSet;
import java.util.regex.Matcher;
import java.util.regex.Pattern;

/** The public face is the document's and no more; the source keeps to LANGUAGE.md where a look can tell. */
public final class FaceTest {
    private static final String[] FACE = {
        "feed int", "town", "fault", "told int", "house int int", "day int", "pail int int int", "aunt int int",
        "hour int", "drift int", "undo int", "level int int", "spills int", "fewest", "held", "breath int",
        "pulled int", "best int", "dry int int", "see int boolean", "whence", "lookAt", "write int int", "judge",
        "tear", "seed int", "keep int", "goBack int"};
    private static final String[] FORBIDDEN = {
        "\\b(throw|throws|try|catch|finally|synchronized|assert|import|package|protected|native|volatile)\\b", "->",
        "::", "\\bThread\\b", "\\bRandom\\b", "Math\\.random", "\\w+Exact\\b", "\\bSystem\\.(?!arraycopy\\b)",
        "\\bdouble\\b", "\\bfloat\\b", "[^\\x00-\\x7f]"};
    private static final int LINES_MOST = 60;
    private static final int FIELDS_MOST = 20;
    private static final int PARAMETERS_MOST = 7;

    private static final Check CHECK = new Check();

    public static void main(String[] args) throws IOException {
        methods();
        members();
        String source = Files.readString(Path.of(System.getProperty("lentdrains.source", "src/main/java/LentDrains.java")));
        String code = source.replaceAll("(?s)/\\*.*?\\*/", "").replaceAll("//[^\n]*", "");
        faceOfTheDocument(source);
        forbiddenWords(code);
        staticFieldsAreFinal();
        smallClasses();
        shortMethods(code);
        CHECK.end();
    }

    private static String signature(Method m) {
        StringBuilder all = new StringBuilder(m.getName());
        for (Class<?> c : m.getParameterTypes()) {
            all.append(' ').append(c.getName());
        }
        return all.toString();
    }

    private static void methods() {
        Set<String> due = new TreeSet<>(Set.of(FACE));
        Set<String> names = new TreeSet<>();
        for (String row : FACE) {
            names.add(row.split(" ")[0]);
        }
        for (Method m : LentDrains.class.getDeclaredMethods()) {
            boolean open = Modifier.isPublic(m.getModifiers());
            if (open) {
                CHECK.is(signature(m) + " is of the face", due.remove(signature(m)) ? 1 : 0, 1);
                CHECK.is(signature(m) + " answers an int", m.getReturnType() == int.class ? 1 : 0, 1);
                CHECK.is(signature(m) + " is static", Modifier.isStatic(m.getModifiers()) ? 1 : 0, 0);
            } else {
                CHECK.is(m.getName() + " is private", Modifier.isPrivate(m.getModifiers()) ? 1 : 0, 1);
                CHECK.is(m.getName() + " bears a public name", names.contains(m.getName()) ? 1 : 0, 0);
            }
        }
        CHECK.is("missing of the face: " + due, due.size(), 0);
    }

    /** Line by line as the document tells it, in its order, each group behind its heading. */
    private static void faceOfTheDocument(String source) throws IOException {
        String doc = Files.readString(Path.of(System.getProperty("lentdrains.doc", "../shared/DOC.md")));
        Matcher block = Pattern.compile("(?s)## The public face\\s+```java\n(.*?)```").matcher(doc);
        int at = 0;
        for (String line : block.find() ? block.group(1).split("\n") : new String[0]) {
            if (line.startsWith("    public ")) {
                String due = line.contains("=") ? line : line.replace(");", ") {");
                int found = source.indexOf("\n" + due + "\n", at);
                CHECK.is("behind those ahead of it the class has" + line, found >= at ? 1 : 0, 1);
                at = Math.max(at, found);
            }
        }
        CHECK.is("the document has a face", at > 0 ? 1 : 0, 1);
        Matcher group = Pattern.compile("Ahead of the calls `(\\w+)`[^:]*: (---- [^.]*)\\.").matcher(doc);
        int groups = 0;
        while (group.find()) {
            String due = "    // " + group.group(2) + "\n\n    public int " + group.group(1) + "(";
            CHECK.is("'" + group.group(2) + "' stands ahead of " + group.group(1), source.contains(due) ? 1 : 0, 1);
            groups++;
        }
        CHECK.is("groups of calls", groups, 5);
    }

    private static void members() {
        CHECK.is("final", Modifier.isFinal(LentDrains.class.getModifiers()) ? 1 : 0, 1);
        Constructor<?>[] makers = LentDrains.class.getDeclaredConstructors();
        CHECK.is("constructors", makers.length, 1);
        CHECK.is("its parameters", makers[0].getParameterCount(), 0);
        CHECK.is("public", Modifier.isPublic(makers[0].getModifiers()) ? 1 : 0, 1);
        int open = 0;
        for (Field f : LentDrains.class.getDeclaredFields()) {
            open += Modifier.isPublic(f.getModifiers()) ? 1 : 0;
            boolean fine = Modifier.isPublic(f.getModifiers()) || Modifier.isPrivate(f.getModifiers());
            CHECK.is("field " + f.getName() + " is public or private", fine ? 1 : 0, 1);
        }
        CHECK.is("public constants", open, 5);
        CHECK.is("NONE", LentDrains.NONE, Check.NONE);
        CHECK.is("UNKNOWN", LentDrains.UNKNOWN, Check.UNKNOWN);
        CHECK.is("OUTSIDE", LentDrains.OUTSIDE, Check.OUTSIDE);
        CHECK.is("NOT", LentDrains.NOT, Check.NOT);
        CHECK.is("FULL", LentDrains.FULL, Check.FULL);
        for (Class<?> c : LentDrains.class.getDeclaredClasses()) {
            CHECK.is(c.getName() + " is static", Modifier.isStatic(c.getModifiers()) ? 1 : 0, 1);
            CHECK.is(c.getName() + " is private", Modifier.isPrivate(c.getModifiers()) ? 1 : 0, 1);
        }
        CHECK.is("more than twelve classes", LentDrains.class.getDeclaredClasses().length + 1 > 12 ? 1 : 0, 0);
    }

    private static void staticFieldsAreFinal() {
        for (Class<?> c : LentDrains.class.getDeclaredClasses()) {
            for (Field f : c.getDeclaredFields()) {
                boolean fine = !Modifier.isStatic(f.getModifiers()) || Modifier.isFinal(f.getModifiers());
                CHECK.is(c.getName() + "." + f.getName() + " is no static variable", fine ? 1 : 0, 1);
            }
        }
    }

    private static void smallClasses() {
        smallClass(LentDrains.class);
        for (Class<?> c : LentDrains.class.getDeclaredClasses()) {
            smallClass(c);
        }
    }

    private static void smallClass(Class<?> c) {
        int fields = 0;
        for (Field f : c.getDeclaredFields()) {
            fields += Modifier.isStatic(f.getModifiers()) ? 0 : 1;
        }
        CHECK.is(c.getName() + " has more than twenty fields", fields > FIELDS_MOST ? 1 : 0, 0);
        for (Method m : c.getDeclaredMethods()) {
            boolean many = m.getParameterCount() > PARAMETERS_MOST;
            CHECK.is(c.getName() + "." + m.getName() + " has more than seven parameters", many ? 1 : 0, 0);
        }
    }

    private static void forbiddenWords(String code) {
        for (String word : FORBIDDEN) {
            Matcher m = Pattern.compile(word).matcher(code);
            CHECK.is("the source has " + word + (m.find() ? ": " + m.group() : ""), m.reset().find() ? 1 : 0, 0);
        }
    }

    private static void shortMethods(String code) {
        int begun = -1;
        String[] lines = code.split("\n", -1);
        for (int i = 0; i < lines.length; i++) {
            if (lines[i].matches("\\s+[\\w\\[\\] ]*\\w+ ?\\(.*\\) \\{") && !lines[i].matches("\\s+(}|if|for|while|switch|else).*")) {
                begun = i;
            }
            if (lines[i].matches(" {4}( {4})?}") && begun >= 0) {
                CHECK.is("line " + (begun + 1) + " begins a long method", i - begun > LINES_MOST ? 1 : 0, 0);
                begun = -1;
            }
        }
    }
}
