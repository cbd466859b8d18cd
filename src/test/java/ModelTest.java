import java.util.ArrayList;
import java.util.List;
import java.util.Random;

/** Long runs of calls, made up from fixed seeds, each answered by the class and by Model alike. */
public final class ModelTest {
    private static final int CALLS = 512;
    private static int wrong = 0;
    private static long compared = 0;

    private final Random random;
    private final ShadeClasses x = new ShadeClasses();
    private final Model m = new Model();
    private final List<String> calls = new ArrayList<>();
    private final int rows;
    private final int numbers;
    private final int size;
    private boolean off = false;

    private ModelTest(long seed, int rows, int numbers, int size) {
        random = new Random(seed);
        this.rows = rows;
        this.numbers = numbers;
        this.size = size;
    }

    public static void main(String[] args) {
        for (int seed = 0; seed < 240; seed++) {
            new ModelTest(seed, 1, 12, 10).run();
            new ModelTest(1000 + seed, 2, 30, 14).run();
            new ModelTest(2000 + seed, 1, 1000, 10).run();
        }
        for (int seed = 0; seed < 6; seed++) {
            new ModelTest(3000 + seed, 3, 60, 24).run();
            new ModelTest(4000 + seed, 3, 1000, 24).run();
        }
        System.out.println(compared + " answers compared, " + wrong + " wrong");
        if (wrong != 0) {
            System.exit(1);
        }
    }

    private void same(String call, long got, long want) {
        if (calls.size() >= CALLS) {
            return; // what later calls answer is free
        }
        calls.add(call + " = " + got);
        compared++;
        if (got != want && !off) {
            off = true;
            wrong++;
            System.out.println(String.join("; ", calls) + " .. due is " + want);
        }
    }

    /** A map that is full from the start, and stays so for long: many partings. */
    private void fill() {
        for (int i = 0; i < size; i++) {
            int number = random.nextInt(numbers);
            same("puts(" + i / 10 + ", " + i % 10 + ", " + number + ")",
                x.puts(i / 10, i % 10, number), m.puts(i / 10, i % 10, number));
        }
    }

    private void run() {
        boolean large = size == 24;
        if (large) {
            fill();
        }
        while (calls.size() < CALLS && !off) {
            if (random.nextInt(large ? 200 : 12) == 0) {
                text();
            } else {
                change();
            }
            for (int i = random.nextInt(6); i > 0; i--) {
                ask();
            }
        }
    }

    /** Mostly a good one, at times one too low or too high. */
    private int near(int least, int most) {
        int pick = random.nextInt(24);
        if (pick == 0) {
            return least - 1;
        }
        if (pick == 1) {
            return most + 1;
        }
        if (pick == 2) {
            return random.nextBoolean() ? Integer.MIN_VALUE : Integer.MAX_VALUE;
        }
        return least + random.nextInt(most - least + 1);
    }

    private int row() {
        return random.nextInt(30) == 0 ? near(0, 9) : random.nextInt(rows);
    }

    private int number() {
        return random.nextInt(20) == 0 ? near(0, 999) : random.nextInt(numbers);
    }

    private void type(String text) {
        for (int i = 0; i < text.length(); i++) {
            int c = text.charAt(i);
            same("type(" + c + ")", x.type(c), m.type(c));
        }
    }

    private String blanks() {
        return " ".repeat(random.nextInt(8) == 0 ? random.nextInt(3) : 0);
    }

    private String item() {
        int pick = random.nextInt(14);
        if (pick == 0) {
            return "k" + blanks() + random.nextInt(8) + blanks() + ";";
        }
        if (pick == 1) {
            return "c" + blanks() + random.nextInt(1010) + ";";
        }
        return "p" + blanks() + random.nextInt(random.nextInt(40) == 0 ? 12 : rows) + " " + blanks()
            + random.nextInt(random.nextInt(40) == 0 ? 12 : 10) + " " + random.nextInt(numbers) + blanks() + ";" + blanks();
    }

    private void text() {
        StringBuilder told = new StringBuilder();
        for (int i = random.nextInt(size < 12 ? 6 : 18); i > 0; i--) {
            told.append(item());
        }
        if (random.nextInt(3) == 0 && told.length() > 0) {
            int at = random.nextInt(told.length());
            String strange = "pkc;019 xA\u0000\u00e9\n/:`{";
            char c = strange.charAt(random.nextInt(strange.length()));
            switch (random.nextInt(4)) {
                case 0: told.setCharAt(at, c); break;
                case 1: told.insert(at, c); break;
                case 2: told.deleteCharAt(at); break;
                default: told.setLength(at); break;
            }
        }
        type(told.toString());
        if (random.nextInt(5) == 0) {
            int c = near(0, 255);
            same("type(" + c + ")", x.type(c), m.type(c));
        }
        same("map()", x.map(), m.map());
        if (random.nextInt(4) != 0) {
            same("clear()", x.clear(), m.clear());
        }
    }

    private void change() {
        int r = row();
        int c = random.nextInt(30) == 0 ? near(0, 9) : random.nextInt(10);
        int image = near(0, 1);
        switch (random.nextInt(16)) {
            case 0:
                same("drops(" + r + ", " + c + ")", x.drops(r, c), m.drops(r, c));
                break;
            case 1: case 2:
                int k = near(1, 6);
                same("asks(" + k + ")", x.asks(k), m.asks(k));
                break;
            case 3: case 4:
                int cost = random.nextInt(4) == 0 ? near(0, 999) : random.nextInt(numbers);
                same("costs(" + cost + ")", x.costs(cost), m.costs(cost));
                break;
            case 5: case 6:
                same("closes()", x.closes(), m.closes());
                break;
            case 7: case 8:
                for (int i = random.nextInt(random.nextInt(5) == 0 ? 12 : 3); i >= 0; i--) {
                    same("undo()", x.undo(), m.undo());
                }
                break;
            case 9:
                if (random.nextBoolean()) {
                    same("keep(" + image + ")", x.keep(image), m.keep(image));
                } else {
                    same("back(" + image + ")", x.back(image), m.back(image));
                }
                break;
            default:
                int number = number();
                same("puts(" + r + ", " + c + ", " + number + ")", x.puts(r, c, number), m.puts(r, c, number));
                break;
        }
    }

    private void ask() {
        int r = row();
        int c = random.nextInt(10);
        int k = near(1, 6);
        int i = near(-1, 5);
        switch (random.nextInt(10)) {
            case 0: case 1:
                int of = near(0, 2);
                same("place(" + r + ", " + c + ", " + of + ")", x.place(r, c, of), m.place(r, c, of));
                break;
            case 2:
                int at = near(0, size);
                int as = near(0, 2);
                same("sorted(" + at + ", " + as + ")", x.sorted(at, as), m.sorted(at, as));
                break;
            case 3:
                same("now(" + i + ")", x.now(i), m.now(i));
                break;
            case 4:
                int what = near(0, 1);
                same("spread(" + what + ")", x.spread(what), m.spread(what));
                break;
            case 5:
                same("moved()", x.moved(), m.moved());
                break;
            case 6:
                same("least(" + k + ", " + i + ")", x.least(k, i), m.least(k, i));
                break;
            case 7:
                int which = near(0, 3);
                same("gain(" + k + ", " + which + ")", x.gain(k, which), m.gain(k, which));
                break;
            case 8:
                askDear(k);
                break;
            default:
                int counted = near(0, 7);
                same("count(" + counted + ")", x.count(counted), m.count(counted));
                break;
        }
    }

    private void askDear(int k) {
        if (random.nextBoolean()) {
            int j = near(1, size);
            same("last(" + k + ", " + j + ")", x.last(k, j), m.last(k, j));
        } else {
            int percent = random.nextInt(3) == 0 ? near(0, 100) : random.nextInt(20);
            same("enough(" + percent + ")", x.enough(percent), m.enough(percent));
        }
    }
}
