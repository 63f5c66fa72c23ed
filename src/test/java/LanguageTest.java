import java.io.IOException;
import java.lang.reflect.Field;
import java.lang.reflect.Method;
import java.lang.reflect.Modifier;
import java.nio.charset.StandardCharsets;
import java.nio.file.Files;
import java.nio.file.Path;
import java.util.ArrayList;
import java.util.Arrays;
import java.util.List;
import java.util.TreeSet;
import java.util.regex.Matcher;
import java.util.regex.Pattern;

/** The rules of LANGUAGE.md that can be seen from the source's text and from the class's face. */
public final class LanguageTest {
    private static final Path SOURCE = Path.of("src/main/java/CommaFreeBooks.java");
    private static final String[] FACE = {"size II", "add I", "drop I", "clear ", "word I", "letter II", "hides III",
        "clash I", "may I", "mays I", "ring II", "bound I", "great II", "swapped II", "swap I", "keeps I", "cast I",
        "spell I", "tear I", "possible I", "certain I", "delay ", "odds IIII", "plan II", "behind I", "feed I", "book ",
        "why I", "write ", "paper I", "judge I", "list II", "put III", "get II", "image ", "undo ", "count I"};
    private static final String[] CONSTANTS = {"NONE", "BAD", "STATE", "FULL", "NOT", "NO"};
    /** Each with the rule that it would break. */
    private static final String[][] FORBIDDEN = {
        {"6", "\\b(throw|throws|try|catch|finally|synchronized|assert)\\b"},
        {"2", "->|::"},
        {"4", "\\b(import|package|System|Object|Class|Thread|Runtime|Random|Exact)\\b|Exact\\("},
        {"6", "\\b(equals|hashCode|toString|getClass)\\b"},
        {"5", "\\bstatic\\s*\\{"},
        {"13", "\\b(nanoTime|currentTimeMillis|random)\\b"},
        {"7", "\\[\\s*-"},
    };
    private static final int MOST_CLASSES = 12;
    private static final int MOST_LINES = 60;
    private static final int MOST_PARAMETERS = 7;
    private static final int MOST_FIELDS = 20;

    private static int wrong;

    private static void fault(String rule, String what) {
        wrong++;
        System.out.println("rule " + rule + ": " + what);
    }

    private static String withoutComments(String source) {
        Matcher m = Pattern.compile("/\\*.*?\\*/|//[^\\n]*", Pattern.DOTALL).matcher(source);
        return m.replaceAll(r -> r.group().replaceAll("[^\\n]", " "));
    }

    private static void checkText(String source, String code) {
        for (int i = 0; i < source.length(); i++) {
            if (source.charAt(i) < 1 || source.charAt(i) > 127) {
                fault("4", "a sign outside 1 .. 127 at " + i);
            }
        }
        for (String[] f : FORBIDDEN) {
            Matcher m = Pattern.compile(f[1]).matcher(code);
            while (m.find()) {
                fault(f[0], "'" + m.group() + "' in line " + code.substring(0, m.start()).lines().count());
            }
        }
    }

    /** Divisions stand only where the divisor was looked at: in the two functions made for it. */
    private static void checkDivisions(String code) {
        Matcher m = Pattern.compile("[^\\n]*[/%][^\\n]*").matcher(code);
        while (m.find()) {
            if (!m.group().contains("below > 0 ? above ")) {
                fault("7", "a division: " + m.group().trim());
            }
        }
    }

    private static void checkMethodLengths(String code) {
        String[] lines = code.split("\n");
        int begun = -1;
        String indent = "";
        for (int i = 0; i < lines.length; i++) {
            Matcher m = Pattern.compile("^(    |        )(?!.*\\b(class|new|return|if|for|while)\\b)\\S.*\\) \\{$").matcher(lines[i]);
            if (begun < 0 && m.find()) {
                begun = i;
                indent = m.group(1);
            } else if (begun >= 0 && lines[i].equals(indent + "}")) {
                if (i - begun + 1 > MOST_LINES) {
                    fault("11", "a method of " + (i - begun + 1) + " lines: " + lines[begun].trim());
                }
                begun = -1;
            }
        }
    }

    private static void checkFace(Class<?> main) {
        TreeSet<String> face = new TreeSet<>(Arrays.asList(FACE));
        TreeSet<String> names = new TreeSet<>();
        face.forEach(f -> names.add(f.substring(0, f.indexOf(' '))));
        for (Method m : main.getDeclaredMethods()) {
            StringBuilder told = new StringBuilder(m.getName() + " ");
            for (Class<?> p : m.getParameterTypes()) {
                told.append(p == int.class ? "I" : "?");
            }
            boolean isLong = m.getName().equals("odds") || m.getName().equals("get");
            if (Modifier.isPublic(m.getModifiers())) {
                if (!face.remove(told.toString()) || m.getReturnType() != (isLong ? long.class : int.class)) {
                    fault("1", "a public method too many: " + m);
                }
            } else if (!Modifier.isPrivate(m.getModifiers()) || names.contains(m.getName())) {
                fault("1", "a method that is not the face's: " + m);
            }
        }
        face.forEach(f -> fault("1", "the face's method is not there: " + f));
        TreeSet<String> constants = new TreeSet<>(Arrays.asList(CONSTANTS));
        for (Field f : main.getDeclaredFields()) {
            if (!Modifier.isPrivate(f.getModifiers()) && !constants.remove(f.getName())) {
                fault("1", "a field that is not the face's: " + f);
            }
        }
        constants.forEach(c -> fault("1", "the face's constant is not there: " + c));
        if (!Modifier.isFinal(main.getModifiers()) || main.getDeclaredConstructors().length != 1) {
            fault("1", "the class is final with one constructor");
        }
    }

    private static void checkClass(Class<?> c, TreeSet<String> faceNames) {
        int fields = 0;
        for (Field f : c.getDeclaredFields()) {
            boolean constant = Modifier.isStatic(f.getModifiers());
            fields += constant ? 0 : 1;
            if (constant && !Modifier.isFinal(f.getModifiers())) {
                fault("5", "a static field that is not final: " + f);
            }
        }
        if (fields > MOST_FIELDS) {
            fault("11", c + " has " + fields + " fields");
        }
        List<java.lang.reflect.Executable> all = new ArrayList<>(Arrays.asList(c.getDeclaredMethods()));
        all.addAll(Arrays.asList(c.getDeclaredConstructors()));
        for (java.lang.reflect.Executable e : all) {
            if (e.getParameterCount() > MOST_PARAMETERS) {
                fault("11", "too many parameters: " + e);
            }
            if (e instanceof Method && c.isMemberClass() && faceNames.contains(e.getName())) {
                fault("1", "a method of a class inside bears a public one's name: " + e);
            }
        }
        if (c.isMemberClass() && (!Modifier.isStatic(c.getModifiers()) || Modifier.isPublic(c.getModifiers()))) {
            fault("2", c + " is not static and private");
        }
    }

    public static void main(String[] args) throws IOException {
        String source = Files.readString(SOURCE, StandardCharsets.UTF_8);
        String code = withoutComments(source);
        checkText(source, code);
        checkDivisions(code);
        checkMethodLengths(code);
        Class<?> main = CommaFreeBooks.class;
        checkFace(main);
        TreeSet<String> faceNames = new TreeSet<>();
        Arrays.asList(FACE).forEach(f -> faceNames.add(f.substring(0, f.indexOf(' '))));
        checkClass(main, faceNames);
        for (Class<?> c : main.getDeclaredClasses()) {
            checkClass(c, faceNames);
        }
        if (main.getDeclaredClasses().length + 1 > MOST_CLASSES) {
            fault("11", "too many classes");
        }
        System.out.println(wrong == 0 ? "the rules are kept" : wrong + " faults");
        if (wrong != 0) {
            System.exit(1);
        }
    }
}
