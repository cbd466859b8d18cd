/** Each promise of the document by hand: ordinary inputs, the edges that it names, wrong inputs. */
public final class PromisesTest {
    private static final int BAD = -1, STATE = -2, FULL = -3, NONE = -9;
    private static int promise;
    private static int asked = 0;
    private static int wrong = 0;

    public static void main(String[] args) {
        promise1();
        promise2();
        promise3();
        promise4Told();
        promise4Faults();
        promise4Anew();
        promise5();
        promise6();
        promise7();
        promise8();
        promise9();
        promise10();
        promise10Kinds();
        promise11();
        promise12();
        promise13();
        promise13Cost();
        promise14();
        promise15();
        promise16();
        promise17();
        promise18();
        promise19();
        promise20and21();
        promise22();
        System.out.println(asked + " answers, " + wrong + " wrong");
        if (wrong != 0) {
            System.exit(1);
        }
    }

    private static void due(String call, long got, long want) {
        asked++;
        if (got != want) {
            wrong++;
            System.out.println("promise " + promise + ": " + call + " answered " + got + ", due is " + want);
        }
    }

    private static void types(ShadeClasses x, String text) {
        for (int i = 0; i < text.length(); i++) {
            due("type in " + text, x.type(text.charAt(i)), x.count(7));
        }
    }

    private static ShadeClasses told(String text) {
        ShadeClasses x = new ShadeClasses();
        types(x, text);
        due("map of " + text, x.map(), text.chars().filter(c -> c == ';').count());
        return x;
    }

    private static void counts(String when, ShadeClasses x, int... wants) {
        for (int i = 0; i < wants.length; i++) {
            due(when + ": count(" + i + ")", x.count(i), wants[i]);
        }
    }

    private static void runs(String when, ShadeClasses x, int... begins) {
        due(when + ": now(-1)", x.now(-1), begins.length);
        for (int i = 0; i < begins.length; i++) {
            due(when + ": now(" + i + ")", x.now(i), begins[i]);
        }
        due(when + ": now behind the last", x.now(begins.length), BAD);
    }

    private static void fills(ShadeClasses x, int places) {
        for (int i = 0; i < places; i++) {
            x.puts(i / 10, i % 10, i * 7);
        }
    }

    private static void promise1() {
        promise = 1;
        ShadeClasses x = new ShadeClasses();
        counts("new", x, 0, 0, 3, 0, NONE, 0, 0, 0, BAD);
        runs("new", x);
        for (int r = 0; r < 10; r++) {
            for (int c = 0; c < 10; c++) {
                due("place", x.place(r, c, 0), NONE);
            }
        }
        due("sorted(0, 0)", x.sorted(0, 0), BAD);
        due("undo", x.undo(), STATE);
        due("back(0)", x.back(0), STATE);
        due("back(1)", x.back(1), STATE);
        ShadeClasses y = new ShadeClasses();
        y.puts(0, 0, 1);
        due("another object's place", x.count(0), 0);
        due("BAD", ShadeClasses.BAD, -1);
        due("STATE", ShadeClasses.STATE, -2);
        due("FULL", ShadeClasses.FULL, -3);
        due("NONE", ShadeClasses.NONE, -9);
    }

    private static void promise2() {
        promise = 2;
        ShadeClasses x = new ShadeClasses();
        int[] bad = {-1, 256, Integer.MIN_VALUE, Integer.MAX_VALUE};
        for (int c : bad) {
            due("type(" + c + ")", x.type(c), BAD);
        }
        due("type(0)", x.type(0), 1);
        due("type(255)", x.type(255), 2);
        for (int i = 3; i <= 150; i++) {
            due("type(32)", x.type(32), i);
        }
        due("a byte too many", x.type(32), FULL);
        due("a wrong byte too many", x.type(256), BAD);
        due("count(7)", x.count(7), 150);
        due("map of strange bytes", x.map(), -10);
        x.clear();
        due("type behind clear", x.type('k'), 1);
    }

    private static void promise3() {
        promise = 3;
        ShadeClasses x = told("p1 1 5;");
        due("clear of nothing", x.clear(), 0);
        types(x, "p2 2");
        due("clear", x.clear(), 4);
        due("clear again", x.clear(), 0);
        counts("clear", x, 1, 1, 3, 0, NONE, 5, 0, 0);
        due("nothing is left of the text", x.map(), 0);
    }

    private static void promise4Told() {
        promise = 4;
        ShadeClasses x = told("p9 0 999;c17;p0 9 0;k6;");
        counts("told", x, 2, 2, 6, 17, NONE, 999, 0, 0);
        due("place(9, 0, 0)", x.place(9, 0, 0), 999);
        due("place(0, 9, 0)", x.place(0, 9, 0), 0);
        counts("blanks", told("  p  0   0 7  ;   k 1;c 0 ;  "), 1, 1, 1, 0, NONE, 7, 0, 0);
        counts("not told", told("p1 1 1;"), 1, 1, 3, 0, NONE, 1, 0, 0);
        counts("edges", told("k1;c999;"), 0, 0, 1, 999, NONE, 0, 0, 0);
        counts("nothing but blanks", told("    "), 0, 0, 3, 0, NONE, 0, 0, 0);
        StringBuilder longest = new StringBuilder("   ");
        for (int i = 0; i < 21; i++) {
            longest.append('p').append(i / 10).append(' ').append(i % 10).append(" 1;");
        }
        counts("the longest text", told(longest.toString()), 21, 1, 3, 0, NONE, 21, 0, 0);
    }

    private static void fault(String text, int at) {
        ShadeClasses x = new ShadeClasses();
        types(x, text);
        due("map of " + text, x.map(), -10 - at);
        due("the text stays", x.count(7), text.length());
        due("no places of " + text, x.count(0), 0);
        due("map of it again", x.map(), -10 - at);
    }

    private static void promise4Faults() {
        promise = 4;
        fault("x1;", 0);
        fault("pk1;", 0);
        fault("pp", 0);
        fault("ka1;", 0);
        fault("kz1;", 0);
        fault("1;", 0);
        fault(";", 0);
        fault("K1;", 0);
        fault("$", 0);
        fault("  \t", 2);
        fault("k1;\n", 3);
        fault("k1;" + (char) 233, 3);
        fault("k1;" + (char) 0, 3);
        fault("k1;`", 3);
        fault("k1;{", 3);
        fault("k/1;", 1);
        fault("k:1;", 1);
        fault("k0;", 1);
        fault("k7;", 1);
        fault("k06;", 1);
        fault("k12;", 1);
        fault("k;", 1);
        fault("kk;", 0);
        fault("k k1;", 2);
        fault("k1 2;", 3);
        fault("k1x;", 2);
        fault("k1;;", 3);
        fault("k1;k2;", 3);
        fault("c1;c1;", 3);
        fault("c1;k1;c", 6);
        fault("c1000;", 1);
        fault("c007;", 1);
        fault("c00;", 1);
        fault("c 99999999999999999999;", 2);
        fault("c 4294967297;", 2);
        fault("p10 0 1;", 1);
        fault("p01 0 1;", 1);
        fault("p0 10 1;", 3);
        fault("p0 00 1;", 3);
        fault("p0 0 1000;", 5);
        fault("p0 0 01;", 5);
        fault("p0;", 2);
        fault("p0 0;", 4);
        fault("p0 0 1 2;", 7);
        fault("p0 0 p;", 5);
        fault("p0 0 1p", 6);
        fault("p3 4 1;p3 4 1;", 10);
        fault("p3 4 1;p3 5 1;p3   4 x;", 19);
        fault("x $", 0);
        fault("p0 0 1;k9;$", 8);
        fault("k", 1);
        fault("k  ", 3);
        fault("k1", 2);
        fault("k1 ", 3);
        fault("k1;p", 4);
        fault("p0", 2);
        fault("p0 0", 4);
        fault("p0 0 5", 6);
        fault("p0 0 5; c3", 10);
    }

    private static void promise4Anew() {
        promise = 4;
        ShadeClasses x = told("p0 0 5;p0 1 9;k2;c4;");
        x.puts(1, 1, 7);
        x.closes();
        x.keep(0);
        types(x, "p2 2 2;k");
        due("a fault", x.map(), -18);
        counts("a fault changes nothing", x, 3, 3, 2, 4, 1, 21, 2, 8);
        due("the image is there", x.back(0), 3);
        x.puts(1, 1, 8);
        types(x, "6;");
        runs("till then", x, 5, 8);
        due("LEAST till then", x.least(6, -1), 3);
        due("LAST till then", x.last(3, 3), 2);
        due("mended", x.map(), 2);
        runs("anew", x, 2);
        due("LEAST anew", x.least(6, -1), 1);
        due("LAST anew", x.last(3, 1), NONE);
        due("LAST anew", x.last(3, 3), BAD);
        counts("anew", x, 1, 1, 6, 0, NONE, 2, 0, 0);
        due("no undo", x.undo(), STATE);
        due("no image 0", x.back(0), STATE);
        due("no image 1", x.back(1), STATE);
        x.keep(1);
        x.costs(5);
        x.closes();
        due("empty", x.map(), 0);
        counts("empty", x, 0, 0, 3, 0, NONE, 0, 0, 0);
        due("no image behind empty", x.back(1), STATE);
    }

    private static void promise5() {
        promise = 5;
        ShadeClasses x = new ShadeClasses();
        due("new", x.puts(3, 4, 0), NONE);
        due("another number", x.puts(3, 4, 999), 0);
        due("the same number", x.puts(3, 4, 999), 999);
        due("row and column are no pair of digits", x.place(4, 3, 0), NONE);
        due("place", x.place(3, 4, 0), 999);
        due("puts(-1, 0, 0)", x.puts(-1, 0, 0), BAD);
        due("puts(10, 0, 0)", x.puts(10, 0, 0), BAD);
        due("puts(0, -1, 0)", x.puts(0, -1, 0), BAD);
        due("puts(0, 10, 0)", x.puts(0, 10, 0), BAD);
        due("puts(0, 0, -1)", x.puts(0, 0, -1), BAD);
        due("puts(0, 0, 1000)", x.puts(0, 0, 1000), BAD);
        due("puts of extremes", x.puts(Integer.MAX_VALUE, Integer.MIN_VALUE, 0), BAD);
        counts("refused", x, 1, 1, 3, 0, NONE, 999, 3);
        ShadeClasses y = new ShadeClasses();
        fills(y, 24);
        due("a twenty-fifth", y.puts(9, 9, 1), FULL);
        due("a wrong twenty-fifth", y.puts(9, 9, 1000), BAD);
        due("one that is there", y.puts(0, 1, 70), 7);
        counts("full", y, 24, 23, 3, 0, NONE, 7 * 276 + 63, 10);
        due("drops", y.drops(0, 0), 0);
        due("room again", y.puts(9, 9, 1), NONE);
    }

    private static void promise6() {
        promise = 6;
        ShadeClasses x = told("p3 4 0;p9 9 12;");
        due("drops(-1, 0)", x.drops(-1, 0), BAD);
        due("drops(10, 0)", x.drops(10, 0), BAD);
        due("drops(0, -1)", x.drops(0, -1), BAD);
        due("drops(0, 10)", x.drops(0, 10), BAD);
        due("none there", x.drops(4, 3), STATE);
        counts("refused", x, 2, 2, 3, 0, NONE, 12, 0);
        due("drops", x.drops(3, 4), 0);
        due("drops again", x.drops(3, 4), STATE);
        due("drops", x.drops(9, 9), 12);
        counts("dropped", x, 0, 0, 3, 0, NONE, 0, 2);
        runs("dropped", x);
    }

    private static void promise7() {
        promise = 7;
        ShadeClasses x = told("p0 0 1;p0 1 2;p0 2 4;p0 3 8;p0 4 16;p0 5 32;p0 6 64;");
        due("asks(0)", x.asks(0), BAD);
        due("asks(7)", x.asks(7), BAD);
        due("it is so", x.asks(3), STATE);
        due("nothing to undo", x.count(6), 0);
        due("asks(6)", x.asks(6), 3);
        due("now(-1)", x.now(-1), 6);
        due("asks(1)", x.asks(1), 6);
        due("now(-1)", x.now(-1), 1);
        due("it is so", x.asks(1), STATE);
        counts("asked", x, 7, 7, 1, 0, NONE, 127, 2);
    }

    private static void promise8() {
        promise = 8;
        ShadeClasses x = new ShadeClasses();
        due("costs(-1)", x.costs(-1), BAD);
        due("costs(1000)", x.costs(1000), BAD);
        due("it is so", x.costs(0), STATE);
        due("nothing to undo", x.count(6), 0);
        due("costs(999)", x.costs(999), 0);
        due("it is so", x.costs(999), STATE);
        due("costs(0)", x.costs(0), 999);
        counts("costed", x, 0, 0, 3, 0, NONE, 0, 2);
    }

    private static void promise9() {
        promise = 9;
        ShadeClasses x = told("p0 0 0;p0 1 2;p0 2 6;k2;");
        due("moved", x.moved(), 1);
        due("closes", x.closes(), 1);
        counts("closed", x, 3, 3, 2, 0, 1, 8, 1);
        due("closes again", x.closes(), 0);
        due("an edition each", x.count(6), 2);
        x.asks(3);
        due("one border more", x.closes(), 1);
        due("OLD", x.count(4), 2);
        x.asks(1);
        due("no border", x.closes(), 0);
        due("OLD", x.count(4), 0);
        x.asks(3);
        due("all borders", x.closes(), 2);
        ShadeClasses none = new ShadeClasses();
        due("no places", none.closes(), 0);
        due("an edition without borders", none.count(4), 0);
    }

    private static void promise10() {
        promise = 10;
        ShadeClasses x = told("p0 0 1;");
        due("none", x.undo(), STATE);
        for (int i = 2; i <= 14; i++) {
            x.puts(0, 0, i);
            due("known", x.count(6), Math.min(i - 1, 10));
        }
        for (int i = 9; i >= 0; i--) {
            due("undo", x.undo(), i);
            due("number", x.place(0, 0, 0), 4 + i);
        }
        due("older ones are lost", x.undo(), STATE);
        due("number", x.place(0, 0, 0), 4);
        x.puts(0, 0, 4);
        due("a put of the same number is one too", x.count(6), 1);
        x.costs(1);
        due("undo", x.undo(), 1);
        x.asks(5);
        due("undo", x.undo(), 1);
        due("undo", x.undo(), 0);
        due("undo", x.undo(), STATE);
    }

    private static void promise10Kinds() {
        promise = 10;
        ShadeClasses x = told("p0 0 0;p0 1 2;p0 2 6;k2;c1;");
        x.closes();
        x.puts(0, 1, 4);
        x.puts(5, 5, 70);
        x.drops(0, 0);
        x.asks(3);
        x.costs(9);
        x.closes();
        types(x, "zz");
        counts("all done", x, 3, 3, 3, 9, 2, 80, 7, 2);
        due("not closed", x.undo(), 6);
        counts("not closed", x, 3, 3, 3, 9, 1, 80, 6, 2);
        due("moved", x.moved(), 1);
        due("not costed", x.undo(), 5);
        counts("not costed", x, 3, 3, 3, 1, 1, 80, 5, 2);
        due("not asked", x.undo(), 4);
        counts("not asked", x, 3, 3, 2, 1, 1, 80, 4, 2);
        due("not dropped", x.undo(), 3);
        counts("not dropped", x, 4, 4, 2, 1, 1, 80, 3, 2);
        due("place", x.place(0, 0, 0), 0);
        due("not put", x.undo(), 2);
        due("place", x.place(5, 5, 0), NONE);
        due("not another number", x.undo(), 1);
        due("place", x.place(0, 1, 0), 2);
        due("no edition", x.undo(), 0);
        counts("as told", x, 3, 3, 2, 1, NONE, 8, 0, 2);
        runs("as told", x, 0, 6);
    }

    private static void promise11() {
        promise = 11;
        ShadeClasses x = told("p0 0 10;p0 1 20;p0 2 30;p0 3 40;p0 4 50;p0 5 60;k1;");
        int[][] tints = {{}, {255}, {255, 0}, {255, 128, 0}, {255, 170, 85, 0}, {255, 192, 128, 64, 0}, {255, 204, 153, 102, 51, 0}};
        for (int k = 1; k <= 6; k++) {
            x.asks(k);
            for (int c = 0; c < 6; c++) {
                int shade = x.sorted(c, 2);
                due("number", x.place(0, c, 0), 10 + 10 * c);
                due("shade", x.place(0, c, 1), shade);
                due("tint of " + shade + " of " + k, x.place(0, c, 2), tints[k][Math.max(Math.min(shade, k - 1), 0)]);
            }
        }
        due("the last shade", x.place(0, 5, 1), 5);
        due("none", x.place(1, 0, 0), NONE);
        due("none", x.place(1, 0, 2), NONE);
        due("what", x.place(1, 0, 3), BAD);
        due("what", x.place(0, 0, 3), BAD);
        due("what", x.place(0, 0, -1), BAD);
        due("row", x.place(-1, 0, 0), BAD);
        due("row", x.place(10, 0, 0), BAD);
        due("column", x.place(0, -1, 0), BAD);
        due("column", x.place(0, 10, 0), BAD);
        due("column", x.place(Integer.MIN_VALUE, Integer.MAX_VALUE, 0), BAD);
    }

    private static void promise12() {
        promise = 12;
        ShadeClasses x = told("p0 0 50;p0 1 3;p0 2 50;p0 3 4;p5 5 3;p9 9 50;k2;");
        int[][] wants = {{3, 2, 0}, {4, 1, 0}, {50, 3, 1}};
        for (int i = 0; i < 3; i++) {
            for (int what = 0; what < 3; what++) {
                due("sorted(" + i + ", " + what + ")", x.sorted(i, what), wants[i][what]);
            }
        }
        due("sorted(-1, 0)", x.sorted(-1, 0), BAD);
        due("sorted(3, 0)", x.sorted(3, 0), BAD);
        due("sorted(0, -1)", x.sorted(0, -1), BAD);
        due("sorted(0, 3)", x.sorted(0, 3), BAD);
        x.puts(0, 1, 4);
        due("weight", x.sorted(0, 1), 1);
        due("weight", x.sorted(1, 1), 2);
        ShadeClasses full = new ShadeClasses();
        fills(full, 24);
        due("the last of all", full.sorted(23, 0), 161);
        due("behind the last of all", full.sorted(24, 0), BAD);
    }

    private static void promise13() {
        promise = 13;
        runs("alike", told("p0 0 5;p0 1 5;p0 2 5;"), 5);
        runs("fewer than K", told("p0 0 5;p0 1 9;k6;"), 5, 9);
        runs("of equal ones the lowest", told("p0 0 0;p0 1 1;p0 2 2;k2;"), 0, 1);
        runs("then the third", told("p0 0 0;p0 1 1;p0 2 2;p0 3 3;p0 4 4;k3;"), 0, 1, 3);
        runs("weights draw", told("p0 0 0;p0 1 1;p0 2 2;p0 3 0;k2;"), 0, 1);
        runs("weights draw", told("p0 0 0;p0 1 1;p0 2 2;p0 3 2;k2;"), 0, 2);
        ShadeClasses x = told("p0 0 0;");
        due("now(-2)", x.now(-2), BAD);
        due("now(1)", x.now(1), BAD);
        due("now(MAX)", x.now(Integer.MAX_VALUE), BAD);
        due("now(MIN)", x.now(Integer.MIN_VALUE), BAD);
    }

    /** Of 0, 4, 6 in two the border 4 leaves 2, the border 6 leaves 8: 6 is what a border may cost. */
    private static void promise13Cost() {
        promise = 13;
        ShadeClasses x = told("p0 0 0;p0 1 2;p0 2 6;k2;c7;");
        runs("first", x, 0, 6);
        x.puts(0, 1, 4);
        runs("no edition: no cost", x, 0, 4);
        x.undo();
        x.closes();
        x.puts(0, 1, 4);
        runs("dear", x, 0, 6);
        x.costs(6);
        runs("equal: the lowest", x, 0, 4);
        x.costs(5);
        runs("cheap", x, 0, 4);
        x.costs(999);
        runs("dearest", x, 0, 6);
        due("LEAST knows no cost", x.least(2, 1), 4);
        due("LAST knows no cost", x.last(2, 3), 1);
        x.drops(0, 2);
        runs("the old border is gone", x, 0, 4);
    }

    private static void promise14() {
        promise = 14;
        ShadeClasses x = told("p0 0 0;p0 1 1;p0 2 3;p0 3 3;k1;");
        due("upper", x.spread(0), 27);
        due("lower", x.spread(1), 4);
        due("spread(2)", x.spread(2), BAD);
        due("spread(-1)", x.spread(-1), BAD);
        x.asks(2);
        due("upper", x.spread(0), 1);
        due("lower", x.spread(1), 2);
        x.asks(3);
        due("upper", x.spread(0), 0);
        due("lower", x.spread(1), 1);
        ShadeClasses costly = told("p0 0 0;p0 1 2;p0 2 6;k2;c999;");
        costly.closes();
        costly.puts(0, 1, 4);
        due("cost is no spread", costly.spread(0), 8);
        due("cost is no spread", costly.spread(1), 1);
        ShadeClasses wide = new ShadeClasses();
        for (int i = 0; i < 24; i++) {
            wide.puts(i / 10, i % 10, i < 12 ? 0 : 999);
        }
        wide.asks(1);
        due("the widest", wide.spread(0), 24L * 999 * 999 / 4);
        due("the widest", wide.spread(1), 1);
    }

    private static void promise15() {
        promise = 15;
        ShadeClasses x = told("p0 0 0;p0 1 10;p0 2 20;p0 3 30;k4;");
        due("no edition", x.moved(), 3);
        x.closes();
        due("closed", x.moved(), 0);
        x.puts(0, 2, 21);
        due("one moved", x.moved(), 1);
        x.puts(0, 3, 31);
        due("two moved", x.moved(), 2);
        x.asks(1);
        due("none there", x.moved(), 0);
        due("nothing is changed", x.count(6), 4);
        due("empty", new ShadeClasses().moved(), 0);
    }

    private static void promise16() {
        promise = 16;
        ShadeClasses x = told("p0 0 0;p0 1 1;p0 2 2;p0 3 3;p0 4 4;k1;");
        int[][] wants = {{}, {0}, {0, 2}, {0, 1, 3}, {0, 1, 2, 3}, {0, 1, 2, 3, 4}, {0, 1, 2, 3, 4}};
        for (int k = 1; k <= 6; k++) {
            due("runs in " + k, x.least(k, -1), wants[k].length);
            for (int i = 0; i < wants[k].length; i++) {
                due("least(" + k + ", " + i + ")", x.least(k, i), wants[k][i]);
            }
            due("behind the last", x.least(k, wants[k].length), BAD);
            due("least(" + k + ", -2)", x.least(k, -2), BAD);
        }
        due("least(0, -1)", x.least(0, -1), BAD);
        due("least(7, -1)", x.least(7, -1), BAD);
        due("least(0, 0)", x.least(0, 0), BAD);
    }

    private static void promise17() {
        promise = 17;
        ShadeClasses x = told("p0 0 0;p0 1 10;p0 2 20;p0 3 33;");
        long[][] wants = {{}, {2387, 4, BAD, BAD}, {269, 2, 1849, 4}, {50, 1, 169, 2}, {0, 1, 50, 1}, {0, 1, 0, 1}, {0, 1, 0, 1}};
        for (int k = 1; k <= 6; k++) {
            for (int what = 0; what < 4; what++) {
                due("gain(" + k + ", " + what + ")", x.gain(k, what), wants[k][what]);
            }
        }
        due("gain(0, 0)", x.gain(0, 0), BAD);
        due("gain(7, 0)", x.gain(7, 0), BAD);
        due("gain(7, 2)", x.gain(7, 2), BAD);
        due("gain(2, 4)", x.gain(2, 4), BAD);
        due("gain(2, -1)", x.gain(2, -1), BAD);
    }

    private static void promise18() {
        promise = 18;
        ShadeClasses x = told("p0 0 0;p0 1 1;p0 2 10;p0 3 11;p0 4 30;p0 5 30;k2;");
        int[][] wants = {{}, {0, 0, 0, 0, 0}, {NONE, 1, 2, 2, 4}, {NONE, NONE, 2, 2, 4}, {NONE, NONE, NONE, 3, 4},
            {NONE, NONE, NONE, NONE, 4}, {NONE, NONE, NONE, NONE, NONE}};
        for (int k = 1; k <= 6; k++) {
            for (int j = 1; j <= 5; j++) {
                due("last(" + k + ", " + j + ")", x.last(k, j), wants[k][j - 1]);
            }
            due("last(" + k + ", 0)", x.last(k, 0), BAD);
            due("last(" + k + ", 6)", x.last(k, 6), BAD);
        }
        due("last(0, 1)", x.last(0, 1), BAD);
        due("last(7, 1)", x.last(7, 1), BAD);
        due("of none", new ShadeClasses().last(1, 1), BAD);
        ShadeClasses equal = told("p0 0 5;p0 1 6;p0 2 7;");
        due("of equal ones the lowest", equal.last(2, 3), 1);
        ShadeClasses full = new ShadeClasses();
        fills(full, 24);
        for (int k = 1; k <= 6; k++) {
            for (int j = k + 1; j <= 24; j++) {
                due("it never goes back", Math.min(full.last(k, j) - full.last(k, j - 1), 0), 0);
            }
        }
    }

    private static void promise19() {
        promise = 19;
        ShadeClasses x = told("p0 0 0;p0 1 10;p0 2 20;p0 3 30;k1;");
        int[][] wants = {{100, 1}, {99, 2}, {20, 2}, {19, 3}, {10, 3}, {9, 4}, {0, 4}, {-1, BAD}, {101, BAD}};
        for (int[] want : wants) {
            due("enough(" + want[0] + ")", x.enough(want[0]), want[1]);
        }
        due("of none", new ShadeClasses().enough(0), 1);
        due("of one", told("p0 0 7;p0 1 7;").enough(0), 1);
        ShadeClasses seven = told("p0 0 0;p0 1 1;p0 2 2;p0 3 3;p0 4 4;p0 5 5;p0 6 6;");
        due("six are not enough", seven.enough(0), NONE);
        due("of 28 1/2 is more than 1 of 100", seven.enough(1), NONE);
        due("of 28 1/2 is less than 2 of 100", seven.enough(2), 6);
    }

    private static void promise20and21() {
        promise = 20;
        ShadeClasses x = told("p0 0 0;p0 1 2;p0 2 6;k2;c3;");
        due("keep(-1)", x.keep(-1), BAD);
        due("keep(2)", x.keep(2), BAD);
        x.closes();
        due("keep(0)", x.keep(0), 3);
        due("nothing to undo of it", x.count(6), 1);
        x.drops(0, 0);
        x.asks(4);
        x.costs(0);
        x.closes();
        due("keep(1)", x.keep(1), 2);
        types(x, "k1");
        promise = 21;
        due("back(-1)", x.back(-1), BAD);
        due("back(2)", x.back(2), BAD);
        due("LEAST till then", x.least(6, -1), 2);
        due("LAST till then", x.last(2, 2), 1);
        due("back(0)", x.back(0), 3);
        due("LEAST", x.least(6, -1), 3);
        due("LAST", x.last(3, 3), 2);
        due("LAST", x.last(2, 3), 2);
        counts("back", x, 3, 3, 2, 3, 1, 8, 0, 2);
        due("moved", x.moved(), 0);
        due("nothing to undo", x.undo(), STATE);
        x.puts(0, 1, 4);
        runs("the old border counts", x, 0, 4);
        x.costs(7);
        runs("the old border counts", x, 0, 6);
        due("back(1)", x.back(1), 2);
        counts("back", x, 2, 2, 4, 0, 1, 8, 0, 2);
        due("place", x.place(0, 0, 0), NONE);
        x.puts(7, 7, 7);
        due("an image does not change with the map", x.back(1), 2);
        due("keep anew", x.keep(0), 2);
        due("back(0)", x.back(0), 2);
        ShadeClasses y = new ShadeClasses();
        y.puts(0, 0, 1);
        due("none was kept", y.back(0), STATE);
        due("nothing changes", y.count(6), 1);
        y.keep(1);
        due("none was kept there", y.back(0), STATE);
        y.undo();
        due("an image is not undone", y.back(1), 1);
        due("its edition: none", y.count(4), NONE);
    }

    private static void promise22() {
        promise = 22;
        ShadeClasses x = told("p0 0 999;p0 1 999;p1 0 1;k5;c44;");
        x.closes();
        types(x, "p;;");
        counts("all", x, 3, 2, 5, 44, 1, 1999, 1, 3, BAD);
        due("count(-1)", x.count(-1), BAD);
        due("count(MAX)", x.count(Integer.MAX_VALUE), BAD);
        due("count(MIN)", x.count(Integer.MIN_VALUE), BAD);
    }
}
