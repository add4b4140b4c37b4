import java.lang.reflect.Constructor;
import java.lang.reflect.Field;
import java.lang.reflect.Method;
import java.lang.reflect.Modifier;
import java.nio.file.Files;
import java.nio.file.Paths;
import java.util.ArrayList;
import java.util.Arrays;
import java.util.List;
import java.util.Set;
import java.util.TreeSet;
import java.util.regex.Matcher;
import java.util.regex.Pattern;

/** The face of the document, and what of LANGUAGE.md can be seen from the outside and from the text of the class. */
public final class LanguageTest {
    private static final String FACE = "house(int,int,int,int,int) of(int,int) score(int,int) chord(int) terms(int,int) "
        + "feed(int,int,int,int,int) end(int) row() ash() law() orders() fault() stopped() force(int) discord() sounds(int) "
        + "stoke(int) damp(int,int) buy(int,int) pass() undo() least(int,int,int,int) rings(int) tune(int,int) hear(int) "
        + "forget() hill(int) ask(int) chance(int) compare(int,int) days(int,int) drawn(int,int) image(int) back(int) "
        + "count(int) status()";
    private static int wrong = 0;

    private static void hold(boolean holds, String what) {
        if (!holds) {
            wrong++;
            System.out.println("LanguageTest: " + what);
        }
    }

    public static void main(String[] args) throws Exception {
        theFace();
        theClassesInside();
        theText(Files.readString(Paths.get("src/main/java/SmokeTune.java")));
        System.out.println(wrong == 0 ? "LanguageTest: the face and the language are kept to" : "LanguageTest: " + wrong + " wrong");
        if (wrong != 0) {
            System.exit(1);
        }
    }

    private static void theFace() {
        Class<?> c = SmokeTune.class;
        hold(c.getModifiers() == (Modifier.PUBLIC | Modifier.FINAL), "the class is not public and final alone");
        Set<String> due = new TreeSet<>(Arrays.asList(FACE.split(" ")));
        Set<String> there = new TreeSet<>();
        for (Method m : c.getDeclaredMethods()) {
            if (!Modifier.isPrivate(m.getModifiers())) {
                String types = Arrays.toString(m.getParameterTypes()).replaceAll("[\\[\\] ]", "");
                there.add(m.getName() + "(" + types + ")");
                Class<?> answer = m.getName().equals("chance") ? long.class : int.class;
                hold(m.getModifiers() == Modifier.PUBLIC && m.getReturnType() == answer, m.getName() + " is not as the document says");
            }
        }
        hold(due.equals(there), "methods are " + there);
        for (Field f : c.getDeclaredFields()) {
            boolean none = f.getName().equals("NONE");
            int open = Modifier.PUBLIC | Modifier.STATIC | Modifier.FINAL;
            hold(none ? f.getModifiers() == open && f.getType() == int.class : Modifier.isPrivate(f.getModifiers()), "field " + f.getName());
        }
        Constructor<?>[] made = c.getDeclaredConstructors();
        hold(made.length == 1 && made[0].getModifiers() == Modifier.PUBLIC && made[0].getParameterCount() == 0, "constructors");
    }

    private static void theClassesInside() {
        Set<String> face = new TreeSet<>();
        for (String method : FACE.split(" ")) {
            face.add(method.substring(0, method.indexOf('(')));
        }
        List<Class<?>> all = new ArrayList<>(Arrays.asList(SmokeTune.class.getDeclaredClasses()));
        hold(all.size() <= 11, "there are more than twelve classes");
        for (Class<?> c : all) {
            hold(Modifier.isStatic(c.getModifiers()) && !Modifier.isPublic(c.getModifiers()), c.getName() + " is not static and hidden");
        }
        all.add(SmokeTune.class);
        for (Class<?> c : all) {
            int fields = 0;
            for (Field f : c.getDeclaredFields()) {
                boolean still = Modifier.isStatic(f.getModifiers());
                fields += still ? 0 : 1;
                hold(!still || Modifier.isFinal(f.getModifiers()), "static field " + f.getName() + " is not final");
                hold(!still || f.getType().isPrimitive() || f.getType() == String.class || f.getType() == int[].class, "static field " + f.getName());
            }
            hold(fields <= 20, c.getName() + " has more than twenty fields");
            for (Method m : c.getDeclaredMethods()) {
                hold(m.getParameterCount() <= 7, m.getName() + " has more than seven parameters");
                boolean bears = face.contains(m.getName());
                hold(!bears || c == SmokeTune.class && Modifier.isPublic(m.getModifiers()), m.getName() + " bears a public name");
            }
        }
    }

    private static void theText(String text) {
        String code = text.replaceAll("\"[^\"]*\"", "\"\"").replaceAll("'[^']+'", "' '").replaceAll("//[^\n]*", "").replaceAll("(?s)/\\*.*?\\*/", "");
        String[] forbidden = {"throw", "throws", "try", "catch", "synchronized", "assert", "package", "double", "float", "equals", "hashCode",
            "toString", "Object", "System.out", "Exact"};
        for (String word : forbidden) {
            hold(!Pattern.compile("\\b" + Pattern.quote(word) + "\\b").matcher(code).find(), "the text has " + word);
        }
        hold(!code.contains("->") && !code.contains("::") && !code.contains("@"), "the text has a lambda, a method reference, an annotation");
        Matcher imports = Pattern.compile("import ([^;]+);").matcher(code);
        while (imports.find()) {
            hold(imports.group(1).equals("java.util.Arrays"), "import of " + imports.group(1));
        }
        Matcher library = Pattern.compile("\\b(Arrays|System|Integer|Long|Math)\\.(\\w+)").matcher(code);
        Set<String> listed = Set.of("Arrays.copyOf", "System.arraycopy", "Math.min", "Math.max", "Math.abs");
        while (library.find()) {
            hold(listed.contains(library.group()), "the text uses " + library.group());
        }
        for (char sign : text.toCharArray()) {
            hold(sign == '\n' || sign >= 32 && sign < 127, "the text has sign " + (int) sign);
        }
        methodsAreShort(text.split("\n"));
    }

    private static void methodsAreShort(String[] lines) {
        int start = -1;
        String end = "";
        for (int i = 0; i < lines.length; i++) {
            Matcher head = Pattern.compile("^( {4}| {8})(public|private) .*\\) \\{$").matcher(lines[i]);
            if (head.find()) {
                start = i;
                end = head.group(1) + "}";
            } else if (start >= 0 && lines[i].equals(end)) {
                hold(i - start < 60, "a method of more than sixty lines at line " + (start + 1));
                start = -1;
            }
            hold(lines[i].length() <= 120, "line " + (i + 1) + " is longer than 120 signs");
        }
    }
}
