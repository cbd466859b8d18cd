import java.lang.reflect.Constructor;
import java.lang.reflect.Field;
import java.lang.reflect.Method;
import java.lang.reflect.Modifier;
import java.nio.file.Files;
import java.nio.file.Path;
import java.util.Arrays;
import java.util.Set;
import java.util.TreeSet;
import java.util.regex.Matcher;
import java.util.regex.Pattern;

/** Those rules of LANGUAGE.md that can be seen from outside; it is run in the project's folder. */
public final class LanguageTest {
    private static int wrong = 0;

    private static final Set<String> FACE = new TreeSet<>(Arrays.asList(
        "int type(int)", "int clear()", "int map()", "int puts(int,int,int)", "int drops(int,int)", "int asks(int)",
        "int costs(int)", "int closes()", "int undo()", "int place(int,int,int)", "int sorted(int,int)", "int now(int)",
        "long spread(int)", "int moved()", "int least(int,int)", "long gain(int,int)", "int last(int,int)",
        "int enough(int)", "int keep(int)", "int back(int)", "int count(int)"));

    public static void main(String[] args) throws Exception {
        face();
        names(ShadeClasses.class);
        nested();
        source();
        System.out.println(wrong == 0 ? "the rules are kept" : wrong + " rules are not kept");
        if (wrong != 0) {
            System.exit(1);
        }
    }

    private static void holds(boolean kept, String rule) {
        if (!kept) {
            wrong++;
            System.out.println("not kept: " + rule);
        }
    }

    private static void face() {
        Set<String> found = new TreeSet<>();
        for (Method m : ShadeClasses.class.getDeclaredMethods()) {
            if (Modifier.isPrivate(m.getModifiers())) {
                continue;
            }
            String all = m.toString();
            holds(Modifier.isPublic(m.getModifiers()) && !Modifier.isStatic(m.getModifiers()), "1: " + all);
            found.add(m.getReturnType() + " " + all.substring(all.indexOf(m.getName() + "(")));
        }
        holds(found.equals(FACE), "1: the methods are " + found);
        Set<String> constants = new TreeSet<>();
        for (Field f : ShadeClasses.class.getDeclaredFields()) {
            if (!Modifier.isPrivate(f.getModifiers())) {
                constants.add(Modifier.toString(f.getModifiers()) + " " + f.getType() + " " + f.getName());
            }
        }
        holds(constants.toString().equals("[public static final int BAD, public static final int FULL, "
            + "public static final int NONE, public static final int STATE]"), "1: the constants are " + constants);
        Constructor<?>[] made = ShadeClasses.class.getDeclaredConstructors();
        holds(made.length == 1 && Modifier.isPublic(made[0].getModifiers()) && made[0].getParameterCount() == 0,
            "1: the constructor");
        holds(Modifier.isFinal(ShadeClasses.class.getModifiers()), "1: final");
    }

    private static void names(Class<?> c) {
        Set<String> publicNames = new TreeSet<>();
        for (String face : FACE) {
            publicNames.add(face.substring(face.indexOf(' ') + 1, face.indexOf('(')));
        }
        for (Method m : c.getDeclaredMethods()) {
            boolean faced = c == ShadeClasses.class && Modifier.isPublic(m.getModifiers());
            holds(faced || !publicNames.contains(m.getName()), "1: a method of its own is named " + m.getName());
            holds(m.getParameterCount() <= 7, "11: the parameters of " + m);
        }
        int fields = 0;
        for (Field f : c.getDeclaredFields()) {
            boolean fixed = Modifier.isStatic(f.getModifiers());
            holds(!fixed || Modifier.isFinal(f.getModifiers()), "5: " + f);
            fields += fixed ? 0 : 1;
        }
        holds(fields <= 20, "11: the fields of " + c);
    }

    private static void nested() {
        Class<?>[] inside = ShadeClasses.class.getDeclaredClasses();
        holds(inside.length <= 11, "11: " + inside.length + " classes inside");
        for (Class<?> c : inside) {
            holds(Modifier.isStatic(c.getModifiers()), "2: " + c + " is not static");
            holds(!Modifier.isPublic(c.getModifiers()) && !Modifier.isProtected(c.getModifiers()), "1: " + c);
            names(c);
        }
    }

    private static void source() throws Exception {
        String whole = Files.readString(Path.of("src/main/java/ShadeClasses.java"));
        String code = whole.replaceAll("(?s)/\\*.*?\\*/", "").replaceAll("//[^\n]*", "");
        Matcher banned = Pattern.compile("\\b(throw|throws|try|catch|finally|synchronized|assert|package|native|Object|"
            + "Exception|Thread|Random|BigInteger|hashCode|protected|volatile|transient)\\b|->|::|Exact\\b").matcher(code);
        while (banned.find()) {
            holds(false, "2, 4, 6: " + banned.group());
        }
        Matcher imported = Pattern.compile("import\\s+([^;]+);").matcher(code);
        while (imported.find()) {
            holds(Set.of("java.util.Arrays", "java.util.List", "java.util.ArrayList").contains(imported.group(1)),
                "4: import of " + imported.group(1));
        }
        holds(!Pattern.compile("while \\(true\\)|for \\([^;]*;\\s*;").matcher(code).find(), "9: a loop without an end");
        holds(whole.chars().allMatch(c -> c == '\n' || c >= 32 && c < 127), "3: a sign beyond 126");
        int begun = 0;
        String[] lines = whole.split("\n");
        for (int i = 0; i < lines.length; i++) {
            if (lines[i].matches(" {4,8}\\S.*\\) \\{")) {
                begun = i;
            }
            if (lines[i].matches(" {4,8}\\}")) {
                holds(i - begun < 60 || lines[begun].contains(" class "), "11: the length of " + lines[begun].trim());
            }
        }
    }
}
