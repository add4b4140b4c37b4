import java.io.ByteArrayOutputStream;
import java.io.File;
import java.io.IOException;
import java.lang.reflect.Method;
import java.lang.reflect.Modifier;
import java.net.URL;
import java.net.URLClassLoader;
import java.nio.file.Files;
import java.nio.file.Path;
import java.nio.file.Paths;
import java.util.ArrayList;
import java.util.List;
import java.util.Set;
import java.util.TreeSet;
import java.util.regex.Matcher;
import java.util.regex.Pattern;
import java.util.stream.Stream;
import javax.tools.JavaCompiler;
import javax.tools.ToolProvider;

/** The examples of README.md are compiled as they stand there and run, each call with the answer that stands behind it. */
public final class ReadmeTest {
    private static final String NEW_TOWN = "SmokeTune town = new SmokeTune();";
    private static final Pattern CALL = Pattern.compile("((?:town\\.(\\w+)|\\w+)\\(.*\\));\\s*// (-?\\d+)(?::.*)?");
    private static final Pattern TEST = Pattern.compile("`(\\w+Test)`");
    private static final Set<String> shown = new TreeSet<>();
    private static int calls = 0;
    private static int ran = 0;
    private static int wrong = 0;

    public static void main(String[] args) throws Exception {
        String text = Files.readString(Paths.get("README.md"));
        run(examples(text.split("\n")));
        hold(calls > 0 && ran == calls, ran + " calls of " + calls + " were run");
        allOfTheFaceIsShown();
        theTestsAreTold(text);
        System.out.println(wrong == 0 ? "ReadmeTest: " + calls + " calls answer as README.md says" : "ReadmeTest: " + wrong + " wrong");
        if (wrong != 0) {
            System.exit(1);
        }
    }

    private static void hold(boolean holds, String what) {
        if (!holds) {
            wrong++;
            System.out.println("ReadmeTest: " + what);
        }
    }

    /** The examples call this. */
    public static void due(int line, String call, long got, long want) {
        ran++;
        hold(got == want, "README.md, line " + line + ": " + call + " answered " + got + ", README.md says " + want);
    }

    /** A class that does what the blocks of Java do: one with "static" in front is a member, each other one a run of calls. */
    private static String examples(String[] lines) {
        StringBuilder members = new StringBuilder();
        StringBuilder runs = new StringBuilder();
        for (int i = 0; i < lines.length; i++) {
            if (!lines[i].equals("```java")) {
                continue;
            }
            boolean member = i + 1 < lines.length && lines[i + 1].startsWith("static ");
            runs.append(member ? "" : "{\n");
            for (i++; i < lines.length && !lines[i].equals("```"); i++) {
                if (member) {
                    members.append(lines[i]).append('\n');
                } else {
                    runs.append(statement(i + 1, lines[i].trim())).append('\n');
                }
            }
            hold(i < lines.length, "a block of Java has no end");
            runs.append(member ? "" : "}\n");
        }
        return "public final class Examples {\n" + members + "public static void main(String[] args) {\n" + runs + "}\n}\n";
    }

    private static String statement(int line, String text) {
        if (text.isEmpty() || text.equals(NEW_TOWN)) {
            return text;
        }
        Matcher call = CALL.matcher(text);
        if (!call.matches()) {
            hold(false, "README.md, line " + line + " is no call with an answer behind it");
            return "";
        }
        calls++;
        if (call.group(2) != null) {
            shown.add(call.group(2));
        }
        String quoted = call.group(1).replace("\\", "\\\\").replace("\"", "\\\"");
        return "ReadmeTest.due(" + line + ", \"" + quoted + "\", " + call.group(1) + ", " + call.group(3) + "L);";
    }

    private static void run(String source) throws Exception {
        Path made = Files.createTempDirectory("readme");
        try {
            Path file = made.resolve("Examples.java");
            Files.writeString(file, source);
            JavaCompiler compiler = ToolProvider.getSystemJavaCompiler();
            ByteArrayOutputStream told = new ByteArrayOutputStream();
            String path = System.getProperty("java.class.path");
            boolean compiled = compiler != null
                && compiler.run(null, told, told, "-cp", path, "-d", made.toString(), file.toString()) == 0;
            hold(compiled, "the examples of README.md can't be compiled: " + told);
            if (compiled) {
                URL[] place = {made.toUri().toURL()};
                try (URLClassLoader loader = new URLClassLoader(place, ReadmeTest.class.getClassLoader())) {
                    loader.loadClass("Examples").getMethod("main", String[].class).invoke(null, (Object) new String[0]);
                }
            }
        } finally {
            remove(made);
        }
    }

    private static void remove(Path directory) throws IOException {
        List<Path> all = new ArrayList<>();
        try (Stream<Path> found = Files.list(directory)) {
            found.forEach(all::add);
        }
        all.add(directory);
        for (Path each : all) {
            Files.delete(each);
        }
    }

    private static void allOfTheFaceIsShown() {
        for (Method m : SmokeTune.class.getDeclaredMethods()) {
            boolean open = Modifier.isPublic(m.getModifiers());
            hold(!open || shown.contains(m.getName()), "README.md shows no call of " + m.getName() + "()");
        }
    }

    private static void theTestsAreTold(String text) {
        hold(text.contains(".ci/run"), "README.md does not say how the tests are run");
        Set<String> told = new TreeSet<>();
        for (Matcher each = TEST.matcher(text); each.find();) {
            told.add(each.group(1));
        }
        Set<String> there = new TreeSet<>();
        File[] files = new File("src/test/java").listFiles();
        for (File file : files == null ? new File[0] : files) {
            there.add(file.getName().replace(".java", ""));
        }
        hold(told.equals(there), "README.md tells the tests " + told + ", there are " + there);
    }
}
