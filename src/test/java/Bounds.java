import java.util.function.Supplier;
import java.util.function.ToLongFunction;

/** What the tests of boundary cases share: each answer is counted for the sentence of the document that asks it. */
final class Bounds {
    static final int BAD = -1, STATE = -2, FULL = -3, NONE = -9;
    static final int MIN = Integer.MIN_VALUE, MAX = Integer.MAX_VALUE;

    private static String sentence = "";
    private static int sentences = 0;
    private static int asked = 0;
    private static int wrong = 0;

    private Bounds() { }

    static void says(String words) {
        sentence = words;
        sentences++;
    }

    static void due(String call, long got, long want) {
        asked++;
        if (got != want) {
            wrong++;
            System.out.println("\"" + sentence + "\": " + call + " answered " + got + ", due is " + want);
        }
    }

    static void ends() {
        System.out.println(sentences + " sentences, " + asked + " answers, " + wrong + " wrong");
        if (wrong != 0) {
            System.exit(1);
        }
    }

    static void types(ShadeClasses x, String text) {
        for (int i = 0; i < text.length(); i++) {
            x.type(text.charAt(i));
        }
    }

    static ShadeClasses told(String text) {
        ShadeClasses x = new ShadeClasses();
        types(x, text);
        due("map of " + text, x.map(), text.chars().filter(c -> c == ';').count());
        return x;
    }

    /** These numbers in this order, one place each. */
    static ShadeClasses of(int... numbers) {
        ShadeClasses x = new ShadeClasses();
        for (int i = 0; i < numbers.length; i++) {
            x.puts(i / 10, i % 10, numbers[i]);
        }
        return x;
    }

    static ShadeClasses full() {
        ShadeClasses x = new ShadeClasses();
        for (int i = 0; i < 24; i++) {
            x.puts(i / 10, i % 10, 40 * i);
        }
        return x;
    }

    static void counts(String when, ShadeClasses x, int... wants) {
        for (int i = 0; i < wants.length; i++) {
            due(when + ": count(" + i + ")", x.count(i), wants[i]);
        }
    }

    static void runs(String when, ShadeClasses x, int... begins) {
        due(when + ": now(-1)", x.now(-1), begins.length);
        for (int i = 0; i < begins.length; i++) {
            due(when + ": now(" + i + ")", x.now(i), begins[i]);
        }
        due(when + ": now(" + begins.length + ")", x.now(begins.length), BAD);
    }

    static void leasts(String when, ShadeClasses x, int k, int... begins) {
        due(when + ": least(" + k + ", -1)", x.least(k, -1), begins.length);
        for (int i = 0; i < begins.length; i++) {
            due(when + ": least(" + k + ", " + i + ")", x.least(k, i), begins[i]);
        }
        due(when + ": least(" + k + ", " + begins.length + ")", x.least(k, begins.length), BAD);
    }

    static void fraction(String when, long upper, long lower, long wantUpper, long wantLower) {
        due(when + ": upper", upper, wantUpper);
        due(when + ": lower", lower, wantLower);
    }

    /** Two objects with the same past; one is asked what it must refuse: behind that they are alike in all. */
    static void refused(String call, Supplier<ShadeClasses> past, ToLongFunction<ShadeClasses> act, long want) {
        ShadeClasses one = past.get();
        due(call, act.applyAsLong(one), want);
        String got = everything(one);
        String unasked = everything(past.get());
        due(call + " leaves all as it was", got.equals(unasked) ? 1 : 0, 1);
    }

    /** All that can be seen now, behind each undo, behind each image, and behind the text: nothing is left to see then. */
    private static String everything(ShadeClasses x) {
        StringBuilder seen = new StringBuilder(look(x));
        for (int i = 0; i < 11; i++) {
            int left = x.undo();
            seen.append(" undo ").append(left);
            if (left >= 0) {
                seen.append(look(x));
            }
        }
        for (int image = 0; image < 2; image++) {
            seen.append(" back ").append(x.back(image)).append(look(x));
        }
        return seen.append(" map ").append(x.map()).append(look(x)).toString();
    }

    private static String look(ShadeClasses x) {
        StringBuilder seen = new StringBuilder();
        for (int what = 0; what < 8; what++) {
            seen.append(' ').append(x.count(what));
        }
        for (int i = -1; i < 3; i++) {
            seen.append(' ').append(x.now(i));
        }
        for (int c = 0; c < 4; c++) {
            seen.append(' ').append(x.place(0, c, 0)).append(' ').append(x.place(0, c, 1));
        }
        return seen.append(' ').append(x.spread(0)).append(' ').append(x.spread(1)).append(' ').append(x.moved()).toString();
    }

    /** With places, an edition, undos, both images and a text: all that a refused call could spoil. */
    static ShadeClasses rich() {
        ShadeClasses x = new ShadeClasses();
        types(x, "p0 0 3;p0 1 8;p0 2 20;k2;c5;");
        x.map();
        x.closes();
        x.keep(0);
        x.puts(0, 3, 12);
        x.puts(0, 1, 9);
        x.costs(40);
        x.keep(1);
        x.asks(3);
        x.drops(0, 0);
        x.closes();
        types(x, "p0 2 6;k4;");
        return x;
    }

    /** 24 places, ten undos, no images, a text of 150 bytes. */
    static ShadeClasses brimful() {
        ShadeClasses x = full();
        x.closes();
        types(x, "p0 3 1;k2;c9;" + " ".repeat(137));
        return x;
    }
}
