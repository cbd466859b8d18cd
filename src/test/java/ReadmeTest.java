import java.lang.reflect.Method;
import java.lang.reflect.Modifier;
import java.nio.file.Files;
import java.nio.file.Path;
import java.util.regex.Matcher;
import java.util.regex.Pattern;

/** What README.md shows is so: its example answers as it says there, and its table has every call. */
public final class ReadmeTest {
    private static final Pattern TEXT = Pattern.compile("for \\(char c : \"([^\"]*)\"\\.toCharArray");
    private static final Pattern CALL = Pattern.compile("(?m)^x\\.(\\w+)\\(([-0-9, ]*)\\);\\s+// (-?\\d+):");
    private static int shown = 0;
    private static int wrong = 0;

    public static void main(String[] args) throws Exception {
        String readme = Files.readString(Path.of("README.md"));
        Matcher example = Pattern.compile("(?s)```java\n(.*?)```").matcher(readme);
        holds(example.find(), "there is an example");
        answers(example.group(1));
        table(readme);
        System.out.println(shown + " things shown, " + wrong + " wrong");
        if (wrong != 0) {
            System.exit(1);
        }
    }

    private static void holds(boolean so, String what) {
        shown++;
        if (!so) {
            wrong++;
            System.out.println("not so: " + what);
        }
    }

    private static void answers(String code) throws Exception {
        ShadeClasses x = new ShadeClasses();
        Matcher text = TEXT.matcher(code);
        holds(text.find(), "the example has a text");
        for (char c : text.group(1).toCharArray()) {
            x.type(c);
        }
        Matcher call = CALL.matcher(code);
        int calls = 0;
        while (call.find()) {
            calls++;
            long got = answer(x, call.group(1), call.group(2));
            holds(got == Long.parseLong(call.group(3)), call.group() + " but it answers " + got);
        }
        long lines = code.lines().filter(line -> line.startsWith("x.")).count();
        holds(calls > 0 && calls == lines, "each call of the example has its answer");
    }

    private static long answer(ShadeClasses x, String name, String told) throws Exception {
        String[] parts = told.isBlank() ? new String[0] : told.split(", ");
        Object[] numbers = new Object[parts.length];
        Class<?>[] types = new Class<?>[parts.length];
        for (int i = 0; i < parts.length; i++) {
            numbers[i] = Integer.parseInt(parts[i]);
            types[i] = int.class;
        }
        return ((Number) ShadeClasses.class.getMethod(name, types).invoke(x, numbers)).longValue();
    }

    private static void table(String readme) {
        for (Method m : ShadeClasses.class.getDeclaredMethods()) {
            if (Modifier.isPublic(m.getModifiers())) {
                Matcher row = Pattern.compile("(?m)^\\| `" + m.getName() + "\\(([^)]*)\\)` \\|").matcher(readme);
                boolean found = row.find();
                holds(found, "a row tells of " + m.getName());
                int told = !found || row.group(1).isEmpty() ? 0 : row.group(1).split(", ").length;
                holds(told == m.getParameterCount(), "the row of " + m.getName() + " has its numbers");
            }
        }
    }
}
