/** THE TEXT: a test of its own for each sentence of the document that names a boundary case of it. */
public final class TextBoundsTest {
    private static final int BAD = Bounds.BAD, STATE = Bounds.STATE, FULL = Bounds.FULL, NONE = Bounds.NONE;

    public static void main(String[] args) {
        aByte();
        hundredAndFiftyBytes();
        fullIsBehindBad();
        clearOfEmptyAndFull();
        blanks();
        blanksPartTokens();
        items();
        endedBySemicolon();
        theNextPlace();
        onceAtMost();
        tokens();
        firstTokenThatCannotStand();
        lettersThatBeginNoItem();
        again();
        twentyFifthPlace();
        toldAlready();
        beyondWhatItMayBe();
        aByteThatBeginsNone();
        numeralAboveOrWithZero();
        endsTooEarly();
        tellsAllAndIsEmpty();
        emptyText();
        faultChangesNothing();
        readAnew();
        Bounds.ends();
    }

    private static void fault(String text, int at) {
        ShadeClasses x = new ShadeClasses();
        Bounds.types(x, text);
        Bounds.due("map of " + text, x.map(), -10 - at);
    }

    private static void aByte() {
        Bounds.says("A byte (0 .. 255) comes to THE TEXT: how many it has. BAD");
        ShadeClasses x = new ShadeClasses();
        Bounds.due("type(0)", x.type(0), 1);
        Bounds.due("type(255)", x.type(255), 2);
        Bounds.due("count(7)", x.count(7), 2);
        int[] wrong = {-1, 256, -256, 368, Bounds.MIN, Bounds.MAX};
        for (int c : wrong) {
            Bounds.refused("type(" + c + ")", Bounds::rich, y -> y.type(c), BAD);
        }
    }

    private static void hundredAndFiftyBytes() {
        Bounds.says("a text (150 bytes at most)");
        ShadeClasses x = new ShadeClasses();
        for (int i = 1; i <= 143; i++) {
            Bounds.due("type(32)", x.type(' '), i);
        }
        Bounds.types(x, "p9 9 9");
        Bounds.due("the 150th", x.type(';'), 150);
        Bounds.due("the 151st", x.type(';'), FULL);
        Bounds.due("count(7)", x.count(7), 150);
        Bounds.due("all 150 are read", x.map(), 1);
        Bounds.due("place(9, 9, 0)", x.place(9, 9, 0), 9);
        Bounds.due("there is room again", x.type('k'), 1);
        Bounds.refused("type(107)", Bounds::brimful, y -> y.type('k'), FULL);
    }

    private static void fullIsBehindBad() {
        Bounds.says("the first of these: BAD .., STATE .., FULL (of type)");
        Bounds.refused("type(-1)", Bounds::brimful, y -> y.type(-1), BAD);
        Bounds.refused("type(256)", Bounds::brimful, y -> y.type(256), BAD);
    }

    private static void clearOfEmptyAndFull() {
        Bounds.says("THE TEXT is empty: how many bytes it had.");
        ShadeClasses x = new ShadeClasses();
        Bounds.due("clear of a new object's", x.clear(), 0);
        Bounds.due("clear again", x.clear(), 0);
        ShadeClasses y = Bounds.brimful();
        Bounds.due("clear of the longest", y.clear(), 150);
        Bounds.due("count(7)", y.count(7), 0);
        Bounds.counts("nothing else changes", y, 24, 24, 3, 0, 2, 40 * 276, 10, 0);
        Bounds.due("type behind it", y.type('k'), 1);
        Bounds.types(y, "1;");
        Bounds.due("no byte of the cleared one is read", y.map(), 1);
        Bounds.counts("no byte of the cleared one is read", y, 0, 0, 1, 0);
    }

    private static void blanks() {
        Bounds.says("read byte by byte, blanks (32) between TOKENS");
        Bounds.counts("many", Bounds.told("   p   0   1    2   ;   k   4   ;  c   5 ;   "), 1, 1, 4, 5);
        Bounds.counts("none where none is needed", Bounds.told("p0 1 2;k4;c5;"), 1, 1, 4, 5);
        int[] others = {0, 9, 10, 11, 12, 13, 31, 33, 127, 128, 160, 255};
        for (int other : others) {
            ShadeClasses x = new ShadeClasses();
            Bounds.types(x, "k1; ");
            x.type(other);
            Bounds.types(x, "c2;");
            Bounds.due("byte " + other + " is no blank: map", x.map(), -14);
        }
    }

    private static void blanksPartTokens() {
        Bounds.says("blanks (32) between TOKENS (one inside parts it)");
        fault("p 1 2 1 2;", 8);
        fault("k 1 0;", 4);
        fault("c 9 9;", 4);
        fault("p12 5;", 1);
        fault("p1 25;", 3);
    }

    private static void items() {
        Bounds.says("p R C N (the next PLACE) ; k N (K) ; c N (COST)");
        ShadeClasses x = Bounds.told("c999;p0 9 0;k6;p9 0 999;");
        Bounds.counts("the highest", x, 2, 2, 6, 999, NONE, 999, 0, 0);
        Bounds.due("place(0, 9, 0)", x.place(0, 9, 0), 0);
        Bounds.due("place(9, 0, 0)", x.place(9, 0, 0), 999);
        Bounds.counts("the lowest", Bounds.told("k1;c0;p0 0 0;"), 1, 1, 1, 0, NONE, 0, 0, 0);
        Bounds.counts("none of them", Bounds.told("p5 5 5;"), 1, 1, 3, 0);
        fault("p;", 1);
        fault("p1;", 2);
        fault("p1 2;", 4);
        fault("p1 2 3 4;", 7);
        fault("k;", 1);
        fault("k1 2;", 3);
        fault("c;", 1);
        fault("c1 2;", 3);
    }

    private static void endedBySemicolon() {
        Bounds.says("ended by ;");
        fault("k1 c2;", 3);
        fault("p0 0 1 p0 1 2;", 7);
        fault(";", 0);
        fault("k1;;", 3);
        fault("k1; ;", 4);
        fault("k1,", 2);
        fault("k1:", 2);
    }

    private static void theNextPlace() {
        Bounds.says("PLACES: a row, a column (0 .. 9 each; no two alike) (in a text)");
        ShadeClasses x = Bounds.told("p0 0 1;p0 9 2;p9 0 3;p9 9 4;p0 1 5;p1 0 6;");
        Bounds.due("place(0, 0, 0)", x.place(0, 0, 0), 1);
        Bounds.due("place(0, 9, 0)", x.place(0, 9, 0), 2);
        Bounds.due("place(9, 0, 0)", x.place(9, 0, 0), 3);
        Bounds.due("place(9, 9, 0)", x.place(9, 9, 0), 4);
        Bounds.due("place(0, 1, 0)", x.place(0, 1, 0), 5);
        Bounds.due("place(1, 0, 0)", x.place(1, 0, 0), 6);
    }

    private static void onceAtMost() {
        Bounds.says("k and c once at most each.");
        fault("k1;k1;", 3);
        fault("c1;c1;", 3);
        Bounds.counts("each once", Bounds.told("k2;c2;"), 0, 0, 2, 2);
        ShadeClasses x = Bounds.told("k2;c2;");
        Bounds.types(x, "c3;k3;");
        Bounds.due("the next text has its own", x.map(), 2);
        Bounds.types(x, "k4;k");
        Bounds.due("map", x.map(), -13);
        x.clear();
        Bounds.types(x, "k4;c4;");
        Bounds.due("a fault leaves nothing of it", x.map(), 2);
    }

    private static void tokens() {
        Bounds.says("TOKENS are letters a .. z side by side, NUMERALS and ;");
        fault("pp0 0 1;", 0);
        fault("kc1;", 0);
        fault("ka1;", 0);
        fault("kz1;", 0);
        fault("pa0 0 1;", 0);
        fault("cz1;", 0);
        fault("k1a;", 2);
        fault("k1;az", 3);
        fault("p0p;", 2);
        fault("a;", 0);
        fault("z;", 0);
        fault("K1;", 0);
        fault("k1;`", 3);
        fault("k1;{", 3);
        fault("k/;", 1);
        fault("k:;", 1);
    }

    private static void firstTokenThatCannotStand() {
        Bounds.says("FAULT: the place of the first byte of the first TOKEN that can't stand there");
        fault("5;", 0);
        fault("   5;", 3);
        fault("k k;", 2);
        fault("p0 0 k;", 5);
        fault("p0 p 1;", 3);
        fault("p0 0 1 k;", 7);
        fault("k1; 5;", 4);
        fault("k9;$", 1);
        fault("k1;$ k1;", 3);
        fault("x;k1;k1;", 0);
        fault("k1;k1;x", 3);
        fault("k1 345", 3);
    }

    private static void lettersThatBeginNoItem() {
        Bounds.says("letters that begin no ITEM");
        for (char c = 'a'; c <= 'z'; c++) {
            boolean begins = c == 'p' || c == 'k' || c == 'c';
            fault("k1; " + c + "c", 4);
            fault("  " + c, begins ? 3 : 2);
        }
        fault("place 0 0 1;", 0);
        fault("k1; pk", 4);
    }

    private static void again() {
        Bounds.says("k or c again");
        fault("k1; k", 4);
        fault("c1; c", 4);
        fault("k1;c1;p0 0 1;k2;", 13);
        fault("c1;k1;p0 0 1; c2;", 14);
        fault("k1;p0 0 1;k", 10);
    }

    /** The shortest is 7 bytes: 150 have room for 21, so that no text can tell a twenty-second. */
    private static void twentyFifthPlace() {
        Bounds.says("a twenty-fifth PLACE (in a text: 150 bytes end ahead of it)");
        StringBuilder most = new StringBuilder();
        for (int i = 0; i < 21; i++) {
            most.append('p').append(i / 10).append(' ').append(i % 10).append(' ').append(i % 7).append(';');
        }
        ShadeClasses x = Bounds.told(most.toString());
        Bounds.counts("the most", x, 21, 7, 3, 0, NONE, 63, 0, 0);
        Bounds.types(x, most.toString());
        Bounds.due("as many once more, told anew", x.map(), 21);
        Bounds.due("count(0)", x.count(0), 21);
        fault(most + "p9 ", 150);
    }

    private static void toldAlready() {
        Bounds.says("one told already (at C)");
        fault("p0 0 1;p0 0 1;", 10);
        fault("p9 9 1;p9 9 2;", 10);
        fault("p3 4 0;p 3   4 1;", 13);
        fault("p3 4 1;p4 3 1;p3 4", 17);
        fault("p3 4 1;p3 4;", 10);
        ShadeClasses x = Bounds.told("p3 4 1;");
        Bounds.types(x, "p3 4 2;");
        Bounds.due("by an earlier text", x.map(), 1);
        Bounds.due("place(3, 4, 0)", x.place(3, 4, 0), 2);
        ShadeClasses y = Bounds.told("");
        Bounds.types(y, "p3 4 2;;");
        Bounds.due("map", y.map(), -17);
        y.clear();
        Bounds.types(y, "p3 4 2;");
        Bounds.due("by a text with a fault", y.map(), 1);
    }

    private static void beyondWhatItMayBe() {
        Bounds.says("a NUMERAL beyond what it may be, too");
        fault("p10 0 1;", 1);
        fault("p 999 0 1;", 2);
        fault("p0 10 1;", 3);
        fault("p0  999 1;", 4);
        fault("k0;", 1);
        fault("k7;", 1);
        fault("k 10;", 2);
        fault("k999;", 1);
    }

    private static void aByteThatBeginsNone() {
        Bounds.says("of a byte that begins none");
        int[] none = {0, 1, 9, 10, 13, 31, 33, 45, 46, 47, 58, 60, 64, 65, 90, 91, 96, 123, 126, 127, 128, 255};
        for (int c : none) {
            fault(String.valueOf((char) c), 0);
            fault("k1;  " + (char) c, 5);
            fault("p0 0 1" + (char) c + ";", 6);
        }
        fault("k-1;", 1);
        fault("k+1;", 1);
    }

    private static void numeralAboveOrWithZero() {
        Bounds.says("a NUMERAL above 999 or with a 0 ahead of others, that TOKEN's");
        fault("c1000;", 1);
        fault("c 9999;", 2);
        fault("c2147483648;", 1);
        fault("c 4294967296;", 2);
        fault("c18446744073709551616;", 1);
        fault("p0 0 1000;", 5);
        fault("k4294967297;", 1);
        fault("p4294967296 0 1;", 1);
        fault("c00;", 1);
        fault("c01;", 1);
        fault("c 0999;", 2);
        fault("c000;", 1);
        fault("k01;", 1);
        fault("p00 0 1;", 1);
        fault("p0 00 1;", 3);
        fault("p0 0 00;", 5);
        fault("p0 0 " + "0".repeat(145), 5);
        fault("p0 0 " + "9".repeat(145), 5);
        Bounds.counts("a 0 alone, and at the end", Bounds.told("p0 0 100;c0;"), 1, 1, 3, 0, NONE, 100);
    }

    private static void endsTooEarly() {
        Bounds.says("the text's length, if it ends too early.");
        String[] short1 = {"p", "p0", "p0 ", "p0 0", "p0 0 ", "p0 0 1", "p0 0 1 ", "k", "k ", "k1", "k1 ", "c", "c 0", "k1;c"};
        for (String text : short1) {
            fault(text, text.length());
        }
        fault("k1" + " ".repeat(148), 150);
    }

    private static void tellsAllAndIsEmpty() {
        Bounds.says("THE TEXT tells all, and is empty then: how many ITEMS.");
        ShadeClasses x = Bounds.told("p0 0 4;p1 1 9;k5;c7;");
        Bounds.due("count(7)", x.count(7), 0);
        Bounds.types(x, "p2 2 6;");
        Bounds.due("map", x.map(), 1);
        Bounds.counts("what is not told is as at first", x, 1, 1, 3, 0, NONE, 6, 0, 0);
        Bounds.due("place(0, 0, 0)", x.place(0, 0, 0), NONE);
    }

    private static void emptyText() {
        Bounds.says("THE TEXT tells all (none at all, when it is empty)");
        ShadeClasses x = Bounds.told("p0 0 4;p1 1 9;k5;c7;");
        Bounds.due("map of an empty text", x.map(), 0);
        Bounds.counts("empty", x, 0, 0, 3, 0, NONE, 0, 0, 0);
        ShadeClasses y = Bounds.told("p0 0 4;k5;c7;");
        Bounds.types(y, "   ");
        Bounds.due("map of blanks", y.map(), 0);
        Bounds.counts("blanks", y, 0, 0, 3, 0, NONE, 0, 0, 0);
    }

    private static void faultChangesNothing() {
        Bounds.says("-10 less FAULT: nothing changes.");
        Bounds.refused("map", TextBoundsTest::richWithFault, ShadeClasses::map, -10 - 23);
        Bounds.due("a fault at the first byte", faultOf("$"), -10);
        Bounds.due("a fault behind the last byte", faultOf("k" + " ".repeat(149)), -160);
        ShadeClasses x = new ShadeClasses();
        Bounds.types(x, "k");
        Bounds.due("map", x.map(), -11);
        Bounds.due("the text is still there", x.count(7), 1);
        Bounds.types(x, "2;");
        Bounds.due("and can be ended", x.map(), 1);
    }

    private static int faultOf(String text) {
        ShadeClasses x = new ShadeClasses();
        Bounds.types(x, text);
        return x.map();
    }

    private static ShadeClasses richWithFault() {
        ShadeClasses x = Bounds.rich();
        Bounds.types(x, "p7 7 7;c3;p0 2 6;");
        return x;
    }

    private static void readAnew() {
        Bounds.says("(Read anew: as told, no OLD, nothing can be UNDONE, IMAGES are gone.)");
        ShadeClasses x = Bounds.rich();
        Bounds.due("map", x.map(), 2);
        Bounds.counts("as told, no OLD", x, 1, 1, 4, 0, NONE, 6, 0, 0);
        Bounds.due("nothing can be undone", x.undo(), STATE);
        Bounds.due("image 0 is gone", x.back(0), STATE);
        Bounds.due("image 1 is gone", x.back(1), STATE);
        x.puts(0, 0, 1);
        Bounds.due("nothing is old", x.moved(), 1);
        Bounds.due("only what came behind it can be undone", x.undo(), 0);
        Bounds.due("keep", x.keep(1), 1);
        Bounds.due("another image", x.back(0), STATE);
        Bounds.due("back", x.back(1), 1);
    }
}
