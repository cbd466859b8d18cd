/** Places, K, COST, editions, undo and images: a test of its own for each sentence that names a boundary case. */
public final class MapBoundsTest {
    private static final int BAD = Bounds.BAD, STATE = Bounds.STATE, FULL = Bounds.FULL, NONE = Bounds.NONE;
    private static final int[] NO_SIDES = {-1, 10, -10, 100, Bounds.MIN, Bounds.MAX};

    public static void main(String[] args) {
        noPlaces();
        twentyFourPlaces();
        fullIsForANewOne();
        fullIsBehindBad();
        rowsAndColumns();
        noTwoAlike();
        numbers();
        classesWanted();
        costWanted();
        numberTillThen();
        droppedNumber();
        noSuchPlace();
        classesAreSo();
        costIsSo();
        bordersNotAmongOld();
        bordersOfNowAreOld();
        noEdition();
        tenAreKnown();
        ringGoesRound();
        undoneOfEachKind();
        notKnownToUndo();
        howManyMore();
        noneToUndo();
        twoImages();
        imagesKeepFourThings();
        allBecomesAsKept();
        keptPlaces();
        noneWasKept();
        nothingUndoneBehindBack();
        countsOfWhat();
        fiveHundredAndTwelveCalls();
        Bounds.ends();
    }

    private static void noPlaces() {
        Bounds.says("A new object: No PLACES.");
        ShadeClasses x = new ShadeClasses();
        Bounds.counts("new", x, 0, 0, 3, 0, NONE, 0, 0, 0);
        Bounds.runs("new", x);
        Bounds.fraction("new", x.spread(0), x.spread(1), 0, 1);
        Bounds.due("moved", x.moved(), 0);
        for (int r = 0; r < 10; r++) {
            for (int c = 0; c < 10; c++) {
                Bounds.due("place(" + r + ", " + c + ", 0)", x.place(r, c, 0), NONE);
            }
        }
        for (int k = 1; k <= 6; k++) {
            Bounds.leasts("new", x, k);
            Bounds.fraction("new", x.gain(k, 0), x.gain(k, 1), 0, 1);
            Bounds.due("last(" + k + ", 1)", x.last(k, 1), BAD);
        }
        Bounds.due("enough(0)", x.enough(0), 1);
        Bounds.due("sorted(0, 0)", x.sorted(0, 0), BAD);
    }

    private static void twentyFourPlaces() {
        Bounds.says("PLACES (24 at most)");
        ShadeClasses x = new ShadeClasses();
        for (int i = 0; i < 24; i++) {
            Bounds.due("place " + i, x.puts(9 - i / 10, i % 10, 999), NONE);
            Bounds.due("count(0)", x.count(0), i + 1);
        }
        Bounds.due("the twenty-fifth", x.puts(0, 0, 1), FULL);
        Bounds.counts("full", x, 24, 1, 3, 0, NONE, 24 * 999, 10, 0);
        Bounds.due("drops", x.drops(9, 9), 999);
        Bounds.due("room for one", x.puts(0, 0, 1), NONE);
        Bounds.due("and no more", x.puts(9, 9, 1), FULL);
        Bounds.due("undo", x.undo(), 9);
        Bounds.due("undo", x.undo(), 8);
        Bounds.due("full again", x.puts(0, 0, 1), FULL);
    }

    private static void fullIsForANewOne() {
        Bounds.says("FULL (a new one)");
        Bounds.refused("puts(9, 9, 0)", Bounds::brimful, x -> x.puts(9, 9, 0), FULL);
        Bounds.refused("puts(2, 4, 40)", Bounds::brimful, x -> x.puts(2, 4, 40), FULL);
        ShadeClasses x = Bounds.full();
        Bounds.due("the first has another number", x.puts(0, 0, 5), 0);
        Bounds.due("the last has another number", x.puts(2, 3, 6), 23 * 40);
        Bounds.due("count(0)", x.count(0), 24);
    }

    private static void fullIsBehindBad() {
        Bounds.says("the first of these: BAD .., STATE .., FULL (of puts)");
        Bounds.refused("puts(10, 0, 0)", Bounds::brimful, x -> x.puts(10, 0, 0), BAD);
        Bounds.refused("puts(9, -1, 0)", Bounds::brimful, x -> x.puts(9, -1, 0), BAD);
        Bounds.refused("puts(9, 9, 1000)", Bounds::brimful, x -> x.puts(9, 9, 1000), BAD);
        Bounds.refused("puts(9, 9, -1)", Bounds::brimful, x -> x.puts(9, 9, -1), BAD);
    }

    private static void rowsAndColumns() {
        Bounds.says("a row, a column (0 .. 9 each");
        int[][] corners = {{0, 0}, {0, 9}, {9, 0}, {9, 9}};
        ShadeClasses x = new ShadeClasses();
        for (int[] at : corners) {
            Bounds.due("puts", x.puts(at[0], at[1], 7), NONE);
            Bounds.due("place", x.place(at[0], at[1], 0), 7);
            Bounds.due("drops", x.drops(at[0], at[1]), 7);
            Bounds.due("place", x.place(at[0], at[1], 0), NONE);
        }
        for (int i : NO_SIDES) {
            Bounds.refused("puts(" + i + ", 0, 1)", Bounds::rich, y -> y.puts(i, 0, 1), BAD);
            Bounds.refused("puts(0, " + i + ", 1)", Bounds::rich, y -> y.puts(0, i, 1), BAD);
            Bounds.refused("drops(" + i + ", 1)", Bounds::rich, y -> y.drops(i, 1), BAD);
            Bounds.refused("drops(0, " + i + ")", Bounds::rich, y -> y.drops(0, i), BAD);
            Bounds.refused("place(" + i + ", 1, 0)", Bounds::rich, y -> y.place(i, 1, 0), BAD);
            Bounds.refused("place(0, " + i + ", 0)", Bounds::rich, y -> y.place(0, i, 0), BAD);
        }
        ShadeClasses wrapped = new ShadeClasses();
        wrapped.puts(1, 0, 4);
        wrapped.puts(0, 9, 4);
        Bounds.due("place(0, 10, 0) is not (1, 0)", wrapped.place(0, 10, 0), BAD);
        Bounds.due("place(1, -1, 0) is not (0, 9)", wrapped.place(1, -1, 0), BAD);
        Bounds.due("drops(0, 10) is not (1, 0)", wrapped.drops(0, 10), BAD);
        Bounds.due("puts(1, -1, 5) is not (0, 9)", wrapped.puts(1, -1, 5), BAD);
    }

    private static void noTwoAlike() {
        Bounds.says("no two alike");
        ShadeClasses x = new ShadeClasses();
        x.puts(3, 4, 1);
        x.puts(4, 3, 1);
        Bounds.due("row and column are no pair without order", x.count(0), 2);
        x.puts(3, 4, 2);
        Bounds.due("the same place again", x.count(0), 2);
        x.drops(3, 4);
        Bounds.due("it was there once", x.place(3, 4, 0), NONE);
        Bounds.due("the other is still there", x.place(4, 3, 0), 1);
    }

    private static void numbers() {
        Bounds.says("a NUMBER (0 .. 999)");
        ShadeClasses x = new ShadeClasses();
        Bounds.due("puts(0, 0, 0)", x.puts(0, 0, 0), NONE);
        Bounds.due("a place with 0 is a place", x.place(0, 0, 0), 0);
        Bounds.due("a place with 0 is a place", x.count(0), 1);
        Bounds.due("puts(0, 0, 999)", x.puts(0, 0, 999), 0);
        Bounds.due("place(0, 0, 0)", x.place(0, 0, 0), 999);
        int[] wrong = {-1, 1000, -9, Bounds.MIN, Bounds.MAX};
        for (int number : wrong) {
            Bounds.refused("puts(0, 1, " + number + ")", Bounds::rich, y -> y.puts(0, 1, number), BAD);
            Bounds.refused("puts(5, 5, " + number + ")", Bounds::rich, y -> y.puts(5, 5, number), BAD);
        }
    }

    private static void classesWanted() {
        Bounds.says("K (1 .. 6; 3 at first)");
        ShadeClasses x = new ShadeClasses();
        Bounds.due("at first", x.count(2), 3);
        Bounds.due("asks(1)", x.asks(1), 3);
        Bounds.due("asks(6)", x.asks(6), 1);
        Bounds.due("count(2)", x.count(2), 6);
        int[] wrong = {0, 7, -1, Bounds.MIN, Bounds.MAX};
        for (int k : wrong) {
            Bounds.refused("asks(" + k + ")", Bounds::rich, y -> y.asks(k), BAD);
        }
    }

    private static void costWanted() {
        Bounds.says("COST (0 .. 999; 0 at first)");
        ShadeClasses x = new ShadeClasses();
        Bounds.due("at first", x.count(3), 0);
        Bounds.due("costs(999)", x.costs(999), 0);
        Bounds.due("count(3)", x.count(3), 999);
        Bounds.due("costs(0)", x.costs(0), 999);
        Bounds.due("count(3)", x.count(3), 0);
        int[] wrong = {-1, 1000, Bounds.MIN, Bounds.MAX};
        for (int cost : wrong) {
            Bounds.refused("costs(" + cost + ")", Bounds::rich, y -> y.costs(cost), BAD);
        }
    }

    private static void numberTillThen() {
        Bounds.says("PUT: the NUMBER till then; NONE: the PLACE is new.");
        ShadeClasses x = new ShadeClasses();
        Bounds.due("new", x.puts(2, 2, 0), NONE);
        Bounds.due("0 till then", x.puts(2, 2, 999), 0);
        Bounds.due("999 till then", x.puts(2, 2, 1), 999);
        Bounds.due("the same number", x.puts(2, 2, 1), 1);
        x.drops(2, 2);
        Bounds.due("new behind drops", x.puts(2, 2, 1), NONE);
        x.undo();
        Bounds.due("new behind undo", x.puts(2, 2, 3), NONE);
    }

    private static void droppedNumber() {
        Bounds.says("DROPPED: its NUMBER.");
        ShadeClasses x = Bounds.of(0, 999, 5);
        Bounds.due("drops of 0", x.drops(0, 0), 0);
        Bounds.due("drops of 999", x.drops(0, 1), 999);
        Bounds.due("drops of the last place", x.drops(0, 2), 5);
        Bounds.counts("none is left", x, 0, 0, 3, 0, NONE, 0, 6);
        Bounds.runs("none is left", x);
    }

    private static void noSuchPlace() {
        Bounds.says("STATE: there is no such PLACE.");
        Bounds.refused("drops(5, 5)", Bounds::rich, x -> x.drops(5, 5), STATE);
        Bounds.refused("drops(1, 0)", Bounds::rich, x -> x.drops(1, 0), STATE);
        Bounds.refused("dropped already", Bounds::rich, x -> x.drops(0, 0), STATE);
        Bounds.due("of a new object", new ShadeClasses().drops(0, 0), STATE);
    }

    private static void classesAreSo() {
        Bounds.says("ASKED: K till then. BAD; STATE: it is so.");
        Bounds.refused("asks(3)", Bounds::rich, x -> x.asks(3), STATE);
        ShadeClasses x = new ShadeClasses();
        Bounds.due("as at first", x.asks(3), STATE);
        for (int k = 1; k <= 6; k++) {
            x.asks(k);
            Bounds.due("asks(" + k + ") again", x.asks(k), STATE);
        }
        x.undo();
        Bounds.due("what was undone is another one", x.asks(6), 5);
    }

    private static void costIsSo() {
        Bounds.says("COSTED: COST till then. BAD; STATE: it is so.");
        Bounds.refused("costs(40)", Bounds::rich, x -> x.costs(40), STATE);
        ShadeClasses x = new ShadeClasses();
        Bounds.due("as at first", x.costs(0), STATE);
        Bounds.due("costs(999)", x.costs(999), 0);
        Bounds.due("costs(999) again", x.costs(999), STATE);
        x.undo();
        Bounds.due("what was undone is another one", x.costs(999), 0);
    }

    private static void bordersNotAmongOld() {
        Bounds.says("CLOSED: how many BORDERS are not among those OLD till then.");
        Bounds.due("none of none", new ShadeClasses().closes(), 0);
        Bounds.due("none of one run", Bounds.of(5, 5).closes(), 0);
        ShadeClasses x = Bounds.of(0, 10, 20, 30, 40, 50);
        x.asks(6);
        Bounds.due("all of the most", x.closes(), 5);
        Bounds.due("none of the same", x.closes(), 0);
        x.puts(0, 5, 51);
        Bounds.due("the last moved", x.closes(), 1);
        x.puts(0, 1, 11);
        Bounds.due("the first moved", x.closes(), 1);
        x.puts(0, 0, 1);
        Bounds.due("where the first run begins is no border", x.closes(), 0);
    }

    private static void bordersOfNowAreOld() {
        Bounds.says("CLOSED: an edition: BORDERS of NOW are OLD.");
        ShadeClasses x = Bounds.of(0, 10, 20);
        x.closes();
        Bounds.due("two", x.count(4), 2);
        x.asks(1);
        x.closes();
        Bounds.due("none: no border of the edition ahead of it is left", x.count(4), 0);
        x.asks(3);
        Bounds.due("all are strange", x.moved(), 2);
        x.closes();
        Bounds.due("two", x.count(4), 2);
        x.puts(0, 2, 30);
        x.closes();
        x.puts(0, 2, 20);
        Bounds.due("an edition older than the latest does not count", x.moved(), 1);
        ShadeClasses most = Bounds.of(1, 2, 3, 4, 5, 6, 7);
        most.asks(6);
        most.closes();
        Bounds.due("five at most", most.count(4), 5);
    }

    private static void noEdition() {
        Bounds.says("4 how many OLD (NONE: no edition was closed)");
        ShadeClasses x = new ShadeClasses();
        Bounds.due("new", x.count(4), NONE);
        x.closes();
        Bounds.due("an edition without borders", x.count(4), 0);
        x.undo();
        Bounds.due("undone", x.count(4), NONE);
        x.keep(0);
        x.puts(0, 0, 1);
        x.closes();
        x.back(0);
        Bounds.due("an image without an edition", x.count(4), NONE);
    }

    private static void tenAreKnown() {
        Bounds.says("10 are known, older ones are lost");
        ShadeClasses x = new ShadeClasses();
        for (int i = 1; i <= 11; i++) {
            x.puts(0, 0, i);
            Bounds.due("count(6)", x.count(6), Math.min(i, 10));
        }
        for (int i = 10; i >= 1; i--) {
            Bounds.due("undo", x.undo(), i - 1);
            Bounds.due("the number ahead of it", x.place(0, 0, 0), i);
        }
        Bounds.due("the eleventh is lost", x.undo(), STATE);
        Bounds.due("and stays", x.place(0, 0, 0), 1);
        ShadeClasses ten = new ShadeClasses();
        for (int i = 0; i < 10; i++) {
            ten.puts(0, i, i);
        }
        for (int i = 9; i >= 0; i--) {
            Bounds.due("undo of just ten", ten.undo(), i);
        }
        Bounds.due("all ten are undone", ten.count(0), 0);
    }

    private static void ringGoesRound() {
        Bounds.says("10 are known (many times over, some undone between)");
        ShadeClasses x = new ShadeClasses();
        for (int i = 1; i <= 37; i++) {
            x.puts(0, 0, i);
        }
        for (int i = 0; i < 4; i++) {
            x.undo();
        }
        Bounds.due("place", x.place(0, 0, 0), 33);
        Bounds.due("six are left", x.count(6), 6);
        for (int i = 101; i <= 107; i++) {
            x.puts(0, 0, i);
        }
        Bounds.due("ten again", x.count(6), 10);
        for (int i = 106; i >= 101; i--) {
            x.undo();
            Bounds.due("place", x.place(0, 0, 0), i);
        }
        for (int i = 33; i >= 30; i--) {
            x.undo();
            Bounds.due("place", x.place(0, 0, 0), i);
        }
        Bounds.due("no more", x.undo(), STATE);
    }

    private static void undoneOfEachKind() {
        Bounds.says("UNDONE: the latest PUT, DROPPED, ASKED, COSTED, CLOSED");
        ShadeClasses x = Bounds.told("p0 0 0;p0 1 2;p0 2 6;k2;");
        x.puts(9, 9, 30);
        x.undo();
        Bounds.counts("a new place is gone", x, 3, 3, 2, 0, NONE, 8, 0);
        x.puts(0, 1, 5);
        x.undo();
        Bounds.due("the number till then", x.place(0, 1, 0), 2);
        x.drops(0, 0);
        x.undo();
        Bounds.due("the place is there", x.place(0, 0, 0), 0);
        x.asks(1);
        x.undo();
        Bounds.runs("K till then", x, 0, 6);
        x.costs(9);
        x.undo();
        Bounds.due("COST till then", x.count(3), 0);
        x.closes();
        x.undo();
        Bounds.counts("OLD till then", x, 3, 3, 2, 0, NONE, 8, 0);
        Bounds.due("OLD till then", x.moved(), 1);
        x.closes();
        x.puts(0, 2, 7);
        x.closes();
        Bounds.due("the later edition", x.moved(), 0);
        x.undo();
        Bounds.due("the edition ahead of it", x.moved(), 1);
        x.undo();
        Bounds.due("its borders", x.moved(), 0);
    }

    private static void notKnownToUndo() {
        Bounds.says("UNDONE: the latest .. (nothing else is)");
        ShadeClasses x = new ShadeClasses();
        x.puts(0, 0, 1);
        x.keep(0);
        x.keep(1);
        Bounds.types(x, "k5;");
        x.clear();
        Bounds.types(x, "k4;");
        x.moved();
        x.puts(0, 0, 1000);
        x.asks(3);
        x.costs(0);
        x.drops(1, 1);
        Bounds.due("one is known", x.count(6), 1);
        Bounds.due("undo", x.undo(), 0);
        Bounds.due("the place is gone", x.count(0), 0);
        Bounds.due("the text is there", x.count(7), 3);
        Bounds.due("an undo is not undone", x.undo(), STATE);
        Bounds.due("the image is there", x.back(0), 1);
        Bounds.due("the other too", x.back(1), 1);
        Bounds.due("the text is there", x.map(), 1);
    }

    private static void howManyMore() {
        Bounds.says("UNDONE: how many more may be.");
        ShadeClasses x = new ShadeClasses();
        x.asks(1);
        x.costs(1);
        x.closes();
        Bounds.due("two more", x.undo(), 2);
        x.closes();
        Bounds.due("what was undone gives room", x.count(6), 3);
        Bounds.due("two more", x.undo(), 2);
        Bounds.due("one more", x.undo(), 1);
        Bounds.due("none more", x.undo(), 0);
    }

    private static void noneToUndo() {
        Bounds.says("undo: STATE: none.");
        Bounds.refused("undo", ShadeClasses::new, ShadeClasses::undo, STATE);
        ShadeClasses x = new ShadeClasses();
        x.asks(2);
        x.undo();
        Bounds.due("behind the last", x.undo(), STATE);
        Bounds.due("and again", x.undo(), STATE);
        Bounds.due("count(6)", x.count(6), 0);
        x.asks(2);
        Bounds.due("one is known then", x.undo(), 0);
    }

    private static void twoImages() {
        Bounds.says("IMAGES 0, 1");
        int[] wrong = {-1, 2, Bounds.MIN, Bounds.MAX};
        for (int image : wrong) {
            Bounds.refused("keep(" + image + ")", Bounds::rich, x -> x.keep(image), BAD);
            Bounds.refused("back(" + image + ")", Bounds::rich, x -> x.back(image), BAD);
            Bounds.refused("back(" + image + "), none kept", Bounds::brimful, x -> x.back(image), BAD);
        }
        ShadeClasses x = Bounds.of(1);
        x.keep(0);
        x.puts(0, 1, 2);
        x.keep(1);
        x.puts(0, 2, 3);
        Bounds.due("back(0)", x.back(0), 1);
        Bounds.due("back(1)", x.back(1), 2);
        Bounds.due("back(0) again", x.back(0), 1);
        x.puts(5, 5, 5);
        x.puts(6, 6, 6);
        Bounds.due("kept anew", x.keep(0), 3);
        x.drops(5, 5);
        Bounds.due("the newer one", x.back(0), 3);
        Bounds.due("the other is as it was", x.back(1), 2);
    }

    private static void imagesKeepFourThings() {
        Bounds.says("IMAGES 0, 1 keep PLACES, K, COST, OLD; nothing else");
        ShadeClasses x = Bounds.told("p0 0 0;p0 1 2;p0 2 6;k2;c3;");
        x.closes();
        Bounds.types(x, "k");
        Bounds.due("keep", x.keep(1), 3);
        Bounds.types(x, "1;");
        x.puts(0, 1, 9);
        x.puts(7, 7, 7);
        x.asks(5);
        x.costs(999);
        x.closes();
        Bounds.due("back", x.back(1), 3);
        Bounds.counts("as kept, but the text", x, 3, 3, 2, 3, 1, 8, 0, 3);
        Bounds.due("OLD as kept", x.moved(), 0);
        Bounds.due("place(0, 1, 0)", x.place(0, 1, 0), 2);
        Bounds.due("place(7, 7, 0)", x.place(7, 7, 0), NONE);
        Bounds.runs("as kept", x, 0, 6);
        x.drops(0, 0);
        Bounds.due("what is changed behind it is not kept", x.back(1), 3);
    }

    private static void allBecomesAsKept() {
        Bounds.says("All of that becomes as an IMAGE has it: PLACES.");
        ShadeClasses x = Bounds.of(0, 2, 6);
        x.keep(0);
        x.drops(0, 2);
        Bounds.runs("ahead of it", x, 0, 2);
        Bounds.due("sorted(2, 0) ahead of it", x.sorted(2, 0), BAD);
        Bounds.due("least(6, -1) ahead of it", x.least(6, -1), 2);
        Bounds.due("last(2, 2) ahead of it", x.last(2, 2), 1);
        Bounds.due("enough(0) ahead of it", x.enough(0), 2);
        Bounds.due("back", x.back(0), 3);
        Bounds.runs("behind it", x, 0, 2, 6);
        Bounds.due("sorted(2, 0)", x.sorted(2, 0), 6);
        Bounds.due("least(6, -1)", x.least(6, -1), 3);
        Bounds.due("last(2, 3)", x.last(2, 3), 2);
        Bounds.due("enough(0)", x.enough(0), 3);
        Bounds.due("back to what is there already", x.back(0), 3);
        Bounds.runs("it is as it was", x, 0, 2, 6);
    }

    private static void keptPlaces() {
        Bounds.says("An IMAGE is kept: PLACES.");
        ShadeClasses x = new ShadeClasses();
        Bounds.due("of none", x.keep(0), 0);
        x.puts(0, 0, 8);
        Bounds.due("back to none", x.back(0), 0);
        Bounds.due("count(0)", x.count(0), 0);
        ShadeClasses y = Bounds.full();
        Bounds.due("of the most", y.keep(1), 24);
        y.drops(0, 0);
        Bounds.due("back to the most", y.back(1), 24);
        Bounds.due("full", y.puts(9, 9, 1), FULL);
        Bounds.due("place(2, 3, 0)", y.place(2, 3, 0), 920);
    }

    private static void noneWasKept() {
        Bounds.says("back: STATE: none was kept.");
        Bounds.refused("back(0)", Bounds::brimful, x -> x.back(0), STATE);
        Bounds.refused("back(1)", Bounds::brimful, x -> x.back(1), STATE);
        ShadeClasses x = new ShadeClasses();
        x.keep(1);
        Bounds.due("the other was kept", x.back(0), STATE);
        ShadeClasses y = new ShadeClasses();
        y.keep(0);
        Bounds.due("the other was kept", y.back(1), STATE);
    }

    private static void nothingUndoneBehindBack() {
        Bounds.says("nothing can be UNDONE behind back()");
        ShadeClasses x = Bounds.of(1, 2, 3);
        x.keep(0);
        Bounds.due("keep leaves what may be undone", x.count(6), 3);
        x.back(0);
        Bounds.due("count(6)", x.count(6), 0);
        Bounds.due("undo", x.undo(), STATE);
        x.asks(1);
        Bounds.due("only what came behind it", x.undo(), 0);
        Bounds.due("count(0)", x.count(0), 3);
        x.asks(1);
        x.back(1);
        Bounds.due("a refused back leaves what may be undone", x.count(6), 1);
    }

    private static void countsOfWhat() {
        Bounds.says("count: 0 PLACES .. 7 bytes of THE TEXT. BAD.");
        Bounds.counts("all", Bounds.brimful(), 24, 24, 3, 0, 2, 40 * 276, 10, 150);
        int[] wrong = {-1, 8, Bounds.MIN, Bounds.MAX};
        for (int what : wrong) {
            Bounds.refused("count(" + what + ")", Bounds::rich, x -> x.count(what), BAD);
        }
        ShadeClasses x = new ShadeClasses();
        for (int i = 0; i < 24; i++) {
            x.puts(i / 10, i % 10, 999);
        }
        Bounds.due("the largest sum", x.count(5), 24 * 999);
        Bounds.due("SORTED of like ones", x.count(1), 1);
    }

    private static void fiveHundredAndTwelveCalls() {
        Bounds.says("An object is used for at most 512 calls after it has been made");
        ShadeClasses x = new ShadeClasses();
        for (int call = 1; call <= 255; call++) {
            int at = call % 24;
            int till = call <= 24 ? NONE : call - 24;
            Bounds.due("puts, call " + (2 * call - 1), x.puts(at / 10, at % 10, call), till);
            Bounds.due("place, call " + 2 * call, x.place(at / 10, at % 10, 0), call);
        }
        Bounds.due("the 511th", x.count(1), 24);
        Bounds.due("the 512th", x.undo(), 9);
    }
}
