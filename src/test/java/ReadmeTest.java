import java.io.IOException;
import java.lang.reflect.Method;
import java.lang.reflect.Modifier;
import java.nio.charset.StandardCharsets;
import java.nio.file.Files;
import java.nio.file.Path;
import java.util.regex.Matcher;
import java.util.regex.Pattern;

/** The calls that README.md shows answer what it says of them. */
public final class ReadmeTest {
    private static final Path PAGE = Path.of("README.md");
    private static final Pattern SHOWN = Pattern.compile("x\\.(\\w+)\\(([^)]*)\\); +// (-?\\d+): .+");
    private static final String MADE = "CommaFreeBooks x = new CommaFreeBooks();";

    private static Method method(String name) {
        for (Method m : CommaFreeBooks.class.getDeclaredMethods()) {
            if (m.getName().equals(name) && Modifier.isPublic(m.getModifiers())) {
                return m;
            }
        }
        throw new IllegalStateException("the class has no call " + name);
    }

    private static long answer(CommaFreeBooks x, String name, String told) throws ReflectiveOperationException {
        String[] numbers = told.isEmpty() ? new String[0] : told.split(", ");
        Object[] arguments = new Object[numbers.length];
        for (int i = 0; i < numbers.length; i++) {
            arguments[i] = Integer.valueOf(numbers[i]);
        }
        return ((Number) method(name).invoke(x, arguments)).longValue();
    }

    public static void main(String[] args) throws IOException, ReflectiveOperationException {
        CommaFreeBooks x = null;
        int shown = 0;
        int wrong = 0;
        for (String line : Files.readAllLines(PAGE, StandardCharsets.UTF_8)) {
            if (line.startsWith(MADE)) {
                x = new CommaFreeBooks();
            }
            Matcher m = SHOWN.matcher(line);
            boolean read = m.matches();
            if (read) {
                shown++;
            }
            if (line.startsWith("x.") && !read
                || read && answer(x, m.group(1), m.group(2)) != Long.parseLong(m.group(3))) {
                wrong++;
                System.out.println("README.md: it is not so: " + line);
            }
        }
        if (shown == 0) {
            wrong++;
            System.out.println("README.md shows no calls");
        }
        System.out.println(shown + " calls shown, " + (wrong == 0 ? "all answer so" : wrong + " do not"));
        if (wrong != 0) {
            System.exit(1);
        }
    }
}
