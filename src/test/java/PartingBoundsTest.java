/** SORTED, partings, shades, tints and tables: a test of its own for each sentence that names a boundary case. */
public final class PartingBoundsTest {
    private static final int BAD = Bounds.BAD, NONE = Bounds.NONE;

    public static void main(String[] args) {
        unlikeNumbersRising();
        sortedFromZero();
        weights();
        fewerThanWanted();
        noneEmpty();
        beginsAtItsLeast();
        spreadOfARun();
        spreadOfAllRuns();
        exactFraction();
        widestSpread();
        spreadInLeastTerms();
        leastOfSeveral();
        leastForOneToSix();
        oldNoneAtFirst();
        costForEachBorder();
        nowOfSeveral();
        oldThatIsNoBorder();
        whereRunsBegin();
        nothingIsChanged();
        shades();
        tints();
        noSuchPlaceToSee();
        lastOfKAndJ();
        lastInJustK();
        lastNone();
        lastLowest();
        lastNeverGoesBack();
        gainOfOneClassMore();
        gainsAsked();
        enoughByX();
        enoughExactly();
        enoughNone();
        Bounds.ends();
    }

    private static void unlikeNumbersRising() {
        Bounds.says("SORTED are the unlike NUMBERS of all PLACES, rising");
        ShadeClasses x = Bounds.of(999, 0, 500, 0, 999, 1);
        int[] rising = {0, 1, 500, 999};
        Bounds.due("count(1)", x.count(1), 4);
        for (int i = 0; i < rising.length; i++) {
            Bounds.due("sorted(" + i + ", 0)", x.sorted(i, 0), rising[i]);
        }
        ShadeClasses full = Bounds.full();
        Bounds.due("24 unlike ones", full.count(1), 24);
        Bounds.due("sorted(23, 0)", full.sorted(23, 0), 920);
        full.puts(0, 0, 999);
        Bounds.due("the lowest becomes the highest", full.sorted(23, 0), 999);
        Bounds.due("the lowest becomes the highest", full.sorted(0, 0), 40);
    }

    private static void sortedFromZero() {
        Bounds.says("SORTED: 0 .. ; sorted: 0 the NUMBER, 1 its WEIGHT, 2 in which run of NOW. BAD.");
        int[] wrong = {-1, 3, Bounds.MIN, Bounds.MAX};
        for (int i : wrong) {
            Bounds.refused("sorted(" + i + ", 0)", Bounds::rich, x -> x.sorted(i, 0), BAD);
            Bounds.refused("sorted(0, " + i + ")", Bounds::rich, x -> x.sorted(0, i), BAD);
        }
        Bounds.due("sorted(24, 0)", Bounds.full().sorted(24, 0), BAD);
        Bounds.due("of none", new ShadeClasses().sorted(0, 0), BAD);
        ShadeClasses x = Bounds.of(5);
        Bounds.due("the only one", x.sorted(0, 0), 5);
        Bounds.due("the only one", x.sorted(0, 1), 1);
        Bounds.due("the only one", x.sorted(0, 2), 0);
        Bounds.due("behind the only one", x.sorted(1, 2), BAD);
        ShadeClasses six = Bounds.of(0, 10, 20, 30, 40, 50);
        six.asks(6);
        for (int i = 0; i < 6; i++) {
            Bounds.due("run of " + i, six.sorted(i, 2), i);
        }
    }

    private static void weights() {
        Bounds.says("WEIGHT of one: how many PLACES have it.");
        ShadeClasses x = new ShadeClasses();
        for (int i = 0; i < 24; i++) {
            x.puts(i / 10, i % 10, 7);
            Bounds.due("weight", x.sorted(0, 1), i + 1);
        }
        x.puts(0, 0, 6);
        Bounds.due("one has another number", x.sorted(0, 1), 1);
        Bounds.due("the others", x.sorted(1, 1), 23);
        x.drops(0, 0);
        Bounds.due("the last with a number is gone", x.count(1), 1);
        Bounds.due("the others", x.sorted(0, 1), 23);
    }

    private static void fewerThanWanted() {
        Bounds.says("k of them (as many as there are SORTED, if that is fewer; none of none)");
        int[] spaced = {0, 9, 20, 33, 48, 65, 84};
        ShadeClasses x = new ShadeClasses();
        for (int n = 0; n <= spaced.length; n++) {
            for (int k = 1; k <= 6; k++) {
                x.asks(k);
                Bounds.due("now(-1) of " + n + " in " + k, x.now(-1), Math.min(n, k));
                Bounds.due("least(" + k + ", -1) of " + n, x.least(k, -1), Math.min(n, k));
            }
            if (n < spaced.length) {
                x.puts(0, n, spaced[n]);
            }
        }
        ShadeClasses alike = Bounds.of(4, 4, 4, 9, 9, 9);
        alike.asks(6);
        Bounds.runs("like ones together", alike, 4, 9);
    }

    private static void noneEmpty() {
        Bounds.says("runs of SORTED, one behind the other, none empty");
        ShadeClasses x = Bounds.told("p0 0 0;p0 1 10;p0 2 20;k2;c999;");
        x.closes();
        x.drops(0, 0);
        Bounds.runs("a strange border is dearer than one run, and must be", x, 10, 20);
        x.puts(0, 3, 30);
        Bounds.runs("the old border has nothing ahead of it", x, 10, 20);
        x.asks(3);
        Bounds.runs("two strange borders", x, 10, 20, 30);
        x.puts(0, 1, 11);
        Bounds.runs("the old border has no number", x, 11, 20, 30);
        x.asks(6);
        Bounds.runs("more wanted than there are", x, 11, 20, 30);
    }

    private static void beginsAtItsLeast() {
        Bounds.says("A run BEGINS at its least NUMBER.");
        ShadeClasses x = Bounds.of(12, 11, 10, 902, 901, 900, 10, 900);
        x.asks(2);
        Bounds.runs("two heaps", x, 10, 900);
        Bounds.leasts("two heaps", x, 2, 10, 900);
        Bounds.leasts("all in one", x, 1, 10);
        Bounds.due("last is a number of SORTED, not a NUMBER", x.last(2, 6), 3);
    }

    private static void spreadOfARun() {
        Bounds.says("SPREAD of a run: of all its PLACES the squares of NUMBER less their mean, together");
        ShadeClasses x = Bounds.of(7);
        x.asks(1);
        Bounds.fraction("of one", x.spread(0), x.spread(1), 0, 1);
        x.puts(0, 1, 7);
        Bounds.fraction("of like ones", x.spread(0), x.spread(1), 0, 1);
        x.puts(0, 2, 8);
        Bounds.fraction("of 7 7 8", x.spread(0), x.spread(1), 2, 3);
        for (int w = 2; w <= 24; w++) {
            ShadeClasses y = new ShadeClasses();
            for (int i = 0; i < w; i++) {
                y.puts(i / 10, i % 10, i == 0 ? 501 : 500);
            }
            y.asks(1);
            Bounds.fraction("one of " + w + " is 1 more", y.spread(0), y.spread(1), w - 1, w);
        }
    }

    /** Each run has like ones and one that is 1 more: its spread is its weight less 1 by its weight. */
    private static ShadeClasses heaps(int... heavy) {
        ShadeClasses x = new ShadeClasses();
        int at = 0;
        for (int heap = 0; heap < heavy.length; heap++) {
            for (int i = 0; i < heavy[heap]; i++) {
                x.puts(at / 10, at % 10, 150 * heap + (i == 0 ? 1 : 0));
                at++;
            }
        }
        x.asks(heavy.length);
        return x;
    }

    private static void spreadOfAllRuns() {
        Bounds.says("SPREAD of a PARTING that of all runs together");
        ShadeClasses two = heaps(11, 13);
        Bounds.fraction("10/11 and 12/13", two.spread(0), two.spread(1), 262, 143);
        ShadeClasses three = heaps(7, 8, 9);
        Bounds.fraction("6/7, 7/8 and 8/9", three.spread(0), three.spread(1), 1321, 504);
        ShadeClasses five = heaps(2, 3, 5, 7, 4);
        Bounds.fraction("1/2, 2/3, 4/5, 6/7 and 3/4", five.spread(0), five.spread(1), 1501, 420);
        ShadeClasses whole = heaps(2, 2, 2, 2);
        Bounds.fraction("four halves", whole.spread(0), whole.spread(1), 2, 1);
        ShadeClasses none = Bounds.of(3, 9, 27);
        Bounds.fraction("runs of one each", none.spread(0), none.spread(1), 0, 1);
    }

    /** Of 13 15 19 22 26 in two the borders 19 and 22 both leave 80/3, which floats take for unlike. */
    private static void exactFraction() {
        Bounds.says("SPREAD: an exact fraction");
        ShadeClasses x = Bounds.of(13, 15, 19, 22, 26);
        x.asks(2);
        Bounds.runs("equal in thirds", x, 13, 19);
        Bounds.leasts("equal in thirds", x, 2, 13, 19);
        Bounds.due("last(2, 5)", x.last(2, 5), 2);
        Bounds.fraction("equal in thirds", x.spread(0), x.spread(1), 80, 3);
        ShadeClasses y = Bounds.of(5, 8, 15, 19, 27, 28, 31);
        Bounds.leasts("equal in twelfths", y, 2, 5, 19);
        Bounds.due("last(2, 7)", y.last(2, 7), 3);
        Bounds.fraction("equal in twelfths", y.gain(2, 0), y.gain(2, 1), 1577, 12);
    }

    private static void widestSpread() {
        Bounds.says("SPREAD .. an exact fraction (of the most and widest)");
        ShadeClasses x = new ShadeClasses();
        for (int i = 0; i < 24; i++) {
            x.puts(i / 10, i % 10, i < 12 ? 0 : 999);
        }
        x.asks(1);
        Bounds.fraction("as many at both ends", x.spread(0), x.spread(1), 6L * 999 * 999, 1);
        Bounds.fraction("GAIN of it", x.gain(2, 2), x.gain(2, 3), 6L * 999 * 999, 1);
        Bounds.due("enough(99)", x.enough(99), 2);
        Bounds.due("enough(100)", x.enough(100), 1);
        x.puts(0, 0, 1);
        Bounds.fraction("one of them moved", x.spread(0), x.spread(1), (24L * (1 + 12L * 998001) - 11989L * 11989), 24);
        x.drops(0, 0);
        Bounds.fraction("11 and 12", x.spread(0), x.spread(1), 11L * 12 * 999 * 999, 23);
    }

    private static void spreadInLeastTerms() {
        Bounds.says("spread: upper (what = 0), lower number (1), in least terms (0 by 1). BAD.");
        Bounds.fraction("of none", new ShadeClasses().spread(0), new ShadeClasses().spread(1), 0, 1);
        ShadeClasses x = Bounds.of(0, 1, 3, 3);
        x.asks(1);
        Bounds.fraction("27/4", x.spread(0), x.spread(1), 27, 4);
        ShadeClasses y = Bounds.of(0, 2, 4, 6);
        y.asks(1);
        Bounds.fraction("20, not 80/4", y.spread(0), y.spread(1), 20, 1);
        ShadeClasses z = Bounds.of(0, 0, 1, 1, 1, 1);
        z.asks(1);
        Bounds.fraction("4/3, not 8/6", z.spread(0), z.spread(1), 4, 3);
        int[] wrong = {-1, 2, Bounds.MIN, Bounds.MAX};
        for (int what : wrong) {
            Bounds.refused("spread(" + what + ")", Bounds::rich, r -> r.spread(what), BAD);
        }
    }

    private static void leastOfSeveral() {
        Bounds.says("LEAST .. of several that whose second run BEGINS lowest, then the third, and so on.");
        ShadeClasses x = Bounds.of(0, 1, 2, 3, 4);
        Bounds.leasts("five", x, 2, 0, 2);
        Bounds.leasts("five", x, 3, 0, 1, 3);
        Bounds.leasts("five", x, 4, 0, 1, 2, 3);
        ShadeClasses y = Bounds.of(0, 1, 2, 3, 4, 5, 6, 7);
        Bounds.leasts("eight", y, 2, 0, 4);
        Bounds.leasts("eight", y, 3, 0, 2, 5);
        Bounds.leasts("eight", y, 4, 0, 2, 4, 6);
        Bounds.leasts("eight", y, 5, 0, 1, 2, 4, 6);
        Bounds.leasts("eight", y, 6, 0, 1, 2, 3, 4, 6);
        Bounds.leasts("three", Bounds.of(1, 2, 3), 2, 1, 2);
        ShadeClasses late = Bounds.of(0, 100, 200, 201, 202);
        Bounds.leasts("only the last is free", late, 4, 0, 100, 200, 201);
    }

    private static void leastForOneToSix() {
        Bounds.says("LEAST in k (1 .. 6); least: where run i BEGINS; how many runs (i = -1). BAD.");
        int[] noClasses = {0, 7, -1, Bounds.MIN, Bounds.MAX};
        for (int k : noClasses) {
            Bounds.refused("least(" + k + ", -1)", Bounds::rich, x -> x.least(k, -1), BAD);
            Bounds.refused("least(" + k + ", 0)", Bounds::rich, x -> x.least(k, 0), BAD);
        }
        int[] noRuns = {-2, 3, Bounds.MIN, Bounds.MAX};
        for (int i : noRuns) {
            Bounds.refused("least(3, " + i + ")", Bounds::rich, x -> x.least(3, i), BAD);
        }
        ShadeClasses x = Bounds.of(0, 10, 20, 30, 40, 50, 60);
        Bounds.due("least(1, 0)", x.least(1, 0), 0);
        Bounds.due("least(1, 1)", x.least(1, 1), BAD);
        Bounds.due("least(6, 5)", x.least(6, 5), 50);
        Bounds.due("least(6, 6)", x.least(6, 6), BAD);
        x.asks(1);
        Bounds.due("K does not matter", x.least(6, -1), 6);
    }

    private static void oldNoneAtFirst() {
        Bounds.says("OLD: .. (none at first: then COST does not count)");
        ShadeClasses x = Bounds.told("p0 0 0;p0 1 4;p0 2 6;k2;c999;");
        Bounds.runs("no edition", x, 0, 4);
        Bounds.fraction("no edition", x.spread(0), x.spread(1), 2, 1);
        Bounds.due("every border is strange", x.moved(), 1);
        x.asks(3);
        Bounds.due("every border is strange", x.moved(), 2);
        x.asks(2);
        Bounds.due("every border is strange", x.closes(), 1);
    }

    /** Of 0 4 6 in two the border 4 leaves 2, the border 6 leaves 8: 6 is what a strange border may cost. */
    private static ShadeClasses oldSix(int cost) {
        ShadeClasses x = Bounds.told("p0 0 0;p0 1 2;p0 2 6;k2;");
        x.closes();
        x.puts(0, 1, 4);
        x.costs(cost);
        return x;
    }

    private static void costForEachBorder() {
        Bounds.says("SPREAD, and COST for each BORDER that is not among OLD, together are least");
        Bounds.runs("COST 0", oldSix(0), 0, 4);
        Bounds.runs("COST 5", oldSix(5), 0, 4);
        Bounds.runs("COST 7", oldSix(7), 0, 6);
        Bounds.runs("COST 999", oldSix(999), 0, 6);
        ShadeClasses x = oldSix(7);
        Bounds.fraction("COST is no part of SPREAD", x.spread(0), x.spread(1), 8, 1);
        Bounds.due("none is strange", x.moved(), 0);
        Bounds.leasts("LEAST knows no COST", x, 2, 0, 4);
        Bounds.fraction("LEAST knows no COST", x.gain(2, 0), x.gain(2, 1), 2, 1);
        Bounds.due("LAST knows no COST", x.last(2, 3), 1);
        ShadeClasses far = Bounds.told("p0 0 0;p0 9 999;k2;");
        far.closes();
        far.puts(0, 1, 501);
        far.costs(999);
        Bounds.runs("the dearest cost is less than the gain, 999 * 3/2", far, 0, 501);
        far.puts(0, 1, 500);
        Bounds.runs("and more than 999 * 1/2", far, 0, 999);
    }

    /** Of 10 12 18 20 24 in two the border 18 leaves 62/3, the border 20, an old one, 128/3: 22 more. */
    private static void nowOfSeveral() {
        Bounds.says("NOW: .. of several the first as above.");
        Bounds.runs("COST 6: both 8", oldSix(6), 0, 4);
        ShadeClasses x = Bounds.told("p0 0 10;p0 3 20;k2;c22;");
        x.closes();
        x.puts(0, 1, 12);
        x.puts(0, 2, 18);
        x.puts(0, 4, 24);
        Bounds.runs("both 128/3", x, 10, 18);
        x.costs(23);
        Bounds.runs("a little dearer", x, 10, 20);
        x.costs(21);
        Bounds.runs("a little cheaper", x, 10, 18);
        ShadeClasses low = Bounds.told("p0 0 0;p0 1 2;k2;c6;");
        low.closes();
        low.puts(0, 2, 6);
        Bounds.runs("the old border 2 leaves 8, the border 6 leaves 2: both 8", low, 0, 2);
        low.costs(5);
        Bounds.runs("a little cheaper", low, 0, 6);
        ShadeClasses y = Bounds.of(0, 1, 2, 3, 4);
        Bounds.runs("no edition", y, 0, 1, 3);
        y.closes();
        y.costs(1);
        Bounds.runs("an edition holds it", y, 0, 1, 3);
    }

    private static void oldThatIsNoBorder() {
        Bounds.says("BORDERS of a PARTING: where its runs but the first BEGIN.");
        ShadeClasses x = Bounds.told("p0 0 0;p0 1 10;p0 2 20;k2;c9;");
        Bounds.runs("first", x, 0, 10);
        x.closes();
        x.drops(0, 0);
        Bounds.runs("the old border begins the first run", x, 10, 20);
        Bounds.due("it is no border any more", x.moved(), 1);
        Bounds.due("closes", x.closes(), 1);
        Bounds.due("count(4)", x.count(4), 1);
        x.drops(0, 2);
        Bounds.runs("one run has no border", x, 10);
        Bounds.due("moved", x.moved(), 0);
        x.puts(0, 2, 21);
        Bounds.due("an old border between numbers is none", x.moved(), 1);
    }

    private static void whereRunsBegin() {
        Bounds.says("now: where run i of NOW BEGINS; how many runs (i = -1). BAD.");
        int[] wrong = {-2, 3, Bounds.MIN, Bounds.MAX};
        for (int i : wrong) {
            Bounds.refused("now(" + i + ")", Bounds::rich, x -> x.now(i), BAD);
        }
        Bounds.runs("of none", new ShadeClasses());
        Bounds.runs("of one", Bounds.of(0), 0);
        ShadeClasses x = Bounds.of(999, 800, 600, 400, 200, 0);
        x.asks(6);
        Bounds.runs("six", x, 0, 200, 400, 600, 800, 999);
    }

    private static void nothingIsChanged() {
        Bounds.says("(Nothing is changed.)");
        Bounds.refused("every question", Bounds::rich, PartingBoundsTest::asksAll, 0);
        Bounds.refused("every question", Bounds::full, PartingBoundsTest::asksAll, 0);
        ShadeClasses x = Bounds.rich();
        int first = x.now(1);
        long upper = x.gain(2, 0);
        asksAll(x);
        Bounds.due("asked again", x.now(1), first);
        Bounds.due("asked again", x.gain(2, 0), upper);
    }

    private static long asksAll(ShadeClasses x) {
        x.moved();
        x.enough(50);
        for (int k = 1; k <= 6; k++) {
            x.least(k, 0);
            x.gain(k, 2);
            x.last(k, 3);
        }
        for (int what = 0; what < 3; what++) {
            x.place(0, 1, what);
            x.sorted(1, what);
        }
        return 0;
    }

    private static void shades() {
        Bounds.says("SHADE of a PLACE: in which run of NOW (0 on) its NUMBER is.");
        ShadeClasses x = Bounds.of(50, 0, 51, 1, 52, 2, 999);
        int[] wants = {1, 0, 1, 0, 1, 0, 2};
        for (int c = 0; c < wants.length; c++) {
            Bounds.due("place(0, " + c + ", 1)", x.place(0, c, 1), wants[c]);
        }
        Bounds.due("the first of a run", x.sorted(3, 2), 1);
        Bounds.due("the last of a run", x.sorted(2, 2), 0);
        Bounds.due("the only one", Bounds.of(999).place(0, 0, 1), 0);
    }

    private static void tints() {
        Bounds.says("TINT: 255 times its SHADE by (runs of NOW less 1), .. cut .., taken from 255 (255, if .. one run alone)");
        int[][] tints = {{255}, {255, 0}, {255, 128, 0}, {255, 170, 85, 0}, {255, 192, 128, 64, 0}, {255, 204, 153, 102, 51, 0}};
        ShadeClasses x = Bounds.of(0, 100, 200, 300, 400, 500);
        for (int k = 1; k <= 6; k++) {
            x.asks(k);
            for (int c = 0; c < 6; c++) {
                int shade = x.place(0, c, 1);
                Bounds.due("shade " + shade + " of " + k, x.place(0, c, 2), shade < 0 || shade >= k ? NONE : tints[k - 1][shade]);
            }
            Bounds.due("the darkest of " + k, x.place(0, 5, 2), k == 1 ? 255 : 0);
        }
        ShadeClasses few = Bounds.of(1, 2);
        few.asks(6);
        Bounds.due("runs, not K, count", few.place(0, 1, 2), 0);
        Bounds.due("one run of six wanted", Bounds.of(8, 8).place(0, 1, 2), 255);
    }

    private static void noSuchPlaceToSee() {
        Bounds.says("place: 0 its NUMBER, 1 SHADE, 2 TINT; NONE: there is no such PLACE. BAD.");
        ShadeClasses x = Bounds.of(5);
        for (int what = 0; what <= 2; what++) {
            Bounds.due("none there", x.place(9, 9, what), NONE);
        }
        x.drops(0, 0);
        Bounds.due("none there any more", x.place(0, 0, 1), NONE);
        int[] wrong = {-1, 3, Bounds.MIN, Bounds.MAX};
        for (int what : wrong) {
            Bounds.refused("place(0, 1, " + what + ")", Bounds::rich, y -> y.place(0, 1, what), BAD);
            Bounds.refused("BAD is ahead of NONE", Bounds::rich, y -> y.place(9, 9, what), BAD);
        }
    }

    private static void lastOfKAndJ() {
        Bounds.says("LAST (the table) of k, j (1 .. as many as SORTED)");
        int[] noClasses = {0, 7, -1, Bounds.MIN, Bounds.MAX};
        for (int k : noClasses) {
            Bounds.refused("last(" + k + ", 1)", Bounds::rich, x -> x.last(k, 1), BAD);
        }
        int[] noMany = {0, 4, -1, Bounds.MIN, Bounds.MAX};
        for (int j : noMany) {
            Bounds.refused("last(1, " + j + ")", Bounds::rich, x -> x.last(1, j), BAD);
            Bounds.refused("last(6, " + j + "): BAD is ahead of NONE", Bounds::rich, x -> x.last(6, j), BAD);
        }
        Bounds.due("of none", new ShadeClasses().last(1, 1), BAD);
        ShadeClasses full = Bounds.full();
        Bounds.due("last(1, 24)", full.last(1, 24), 0);
        Bounds.due("last(2, 24)", full.last(2, 24), 12);
        Bounds.due("last(6, 24)", full.last(6, 24), 20);
        Bounds.due("last(1, 25)", full.last(1, 25), BAD);
        ShadeClasses alike = Bounds.of(3, 3, 3);
        Bounds.due("SORTED count, not PLACES", alike.last(1, 2), BAD);
    }

    private static void lastInJustK() {
        Bounds.says("of all PARTINGS of the first j of SORTED in just k of the least SPREAD");
        ShadeClasses x = Bounds.of(0, 1, 50, 51, 900, 900);
        int[][] wants = {{0, 0, 0, 0, 0}, {NONE, 1, 2, 2, 4}, {NONE, NONE, 2, 2, 4}, {NONE, NONE, NONE, 3, 4}, {NONE, NONE, NONE, NONE, 4}};
        for (int k = 1; k <= 5; k++) {
            for (int j = 1; j <= 5; j++) {
                Bounds.due("last(" + k + ", " + j + ")", x.last(k, j), wants[k - 1][j - 1]);
            }
        }
        x.asks(1);
        Bounds.due("K does not matter", x.last(2, 5), 4);
        x.drops(0, 0);
        Bounds.due("behind a change", x.last(2, 4), 3);
    }

    private static void lastNone() {
        Bounds.says("NONE (j is less than k)");
        ShadeClasses x = Bounds.full();
        for (int k = 1; k <= 6; k++) {
            for (int j = 1; j < k; j++) {
                Bounds.due("last(" + k + ", " + j + ")", x.last(k, j), NONE);
            }
            Bounds.due("last(" + k + ", " + k + ")", x.last(k, k), k - 1);
        }
        Bounds.due("of one", Bounds.of(9).last(6, 1), NONE);
        Bounds.due("of one", Bounds.of(9).last(1, 1), 0);
    }

    private static void lastLowest() {
        Bounds.says("the lowest number (of SORTED) at which the last run begins");
        ShadeClasses x = Bounds.of(5, 6, 7, 8, 9, 10, 11);
        int[][] wants = {{2, 3, 1}, {2, 5, 2}, {2, 7, 3}, {3, 4, 2}, {3, 5, 3}, {3, 7, 4}, {4, 5, 3}, {5, 6, 4}, {6, 7, 5}};
        for (int[] want : wants) {
            Bounds.due("last(" + want[0] + ", " + want[1] + ")", x.last(want[0], want[1]), want[2]);
        }
    }

    private static void lastNeverGoesBack() {
        Bounds.says("a table of where the last class begins, that never goes back");
        ShadeClasses x = new ShadeClasses();
        for (int i = 0; i < 24; i++) {
            x.puts(i / 10, i % 10, i * i * 7 % 997);
        }
        for (int k = 1; k <= 6; k++) {
            int ahead = 0;
            for (int j = k; j <= x.count(1); j++) {
                int begin = x.last(k, j);
                Bounds.due("last(" + k + ", " + j + ") goes back", begin < ahead ? 1 : 0, 0);
                ahead = begin;
            }
        }
    }

    private static void gainOfOneClassMore() {
        Bounds.says("GAIN of k (2 .. 6): SPREAD of LEAST in k less 1 less that in k.");
        ShadeClasses x = Bounds.of(0, 10, 20, 33);
        long[][] wants = {{1849, 4}, {169, 2}, {50, 1}, {0, 1}, {0, 1}};
        for (int k = 2; k <= 6; k++) {
            Bounds.fraction("GAIN of " + k, x.gain(k, 2), x.gain(k, 3), wants[k - 2][0], wants[k - 2][1]);
        }
        ShadeClasses one = Bounds.of(4, 4);
        Bounds.fraction("of one alone", one.gain(2, 2), one.gain(2, 3), 0, 1);
        ShadeClasses seven = Bounds.of(0, 1, 2, 3, 4, 5, 6);
        Bounds.fraction("the sixth of seven", seven.gain(6, 2), seven.gain(6, 3), 1, 2);
        Bounds.fraction("in six of seven", seven.gain(6, 0), seven.gain(6, 1), 1, 2);
    }

    private static void gainsAsked() {
        Bounds.says("gain: SPREAD of LEAST in k (what 0, 1), GAIN of k (2, 3; k 2 .. 6) .. BAD.");
        Bounds.refused("gain(1, 2)", Bounds::rich, x -> x.gain(1, 2), BAD);
        Bounds.refused("gain(1, 3)", Bounds::rich, x -> x.gain(1, 3), BAD);
        int[] noClasses = {0, 7, -1, Bounds.MIN, Bounds.MAX};
        for (int k : noClasses) {
            for (int what = 0; what <= 3; what++) {
                int asked = what;
                Bounds.refused("gain(" + k + ", " + what + ")", Bounds::rich, x -> x.gain(k, asked), BAD);
            }
        }
        int[] noWhat = {-1, 4, Bounds.MIN, Bounds.MAX};
        for (int what : noWhat) {
            Bounds.refused("gain(1, " + what + ")", Bounds::rich, x -> x.gain(1, what), BAD);
            Bounds.refused("gain(2, " + what + ")", Bounds::rich, x -> x.gain(2, what), BAD);
        }
        ShadeClasses x = Bounds.of(0, 1);
        Bounds.fraction("in 1", x.gain(1, 0), x.gain(1, 1), 1, 2);
        Bounds.fraction("in 6", x.gain(6, 0), x.gain(6, 1), 0, 1);
    }

    private static void enoughByX() {
        Bounds.says("ENOUGH by x (0 .. 100)");
        int[] wrong = {-1, 101, Bounds.MIN, Bounds.MAX};
        for (int x : wrong) {
            Bounds.refused("enough(" + x + ")", Bounds::rich, y -> y.enough(x), BAD);
        }
        ShadeClasses x = Bounds.of(0, 10, 20, 30);
        Bounds.due("all of it", x.enough(100), 1);
        Bounds.due("nothing of it", x.enough(0), 4);
        Bounds.due("one like number alone", Bounds.of(5, 5).enough(0), 1);
        Bounds.due("of none", new ShadeClasses().enough(0), 1);
        Bounds.due("of none", new ShadeClasses().enough(100), 1);
    }

    /** Of 1 13 16 18 25 31 two classes leave just 36 of 100, which floats take for more. */
    private static void enoughExactly() {
        Bounds.says("the least k by which SPREAD of LEAST in k is no more than x of 100 of that in 1");
        ShadeClasses x = Bounds.of(0, 10, 20, 30);
        int[][] wants = {{99, 2}, {20, 2}, {19, 3}, {10, 3}, {9, 4}};
        for (int[] want : wants) {
            Bounds.due("enough(" + want[0] + ")", x.enough(want[0]), want[1]);
        }
        x.asks(1);
        Bounds.due("K does not matter", x.enough(10), 3);
        ShadeClasses y = Bounds.of(1, 13, 16, 18, 25, 31);
        Bounds.due("just 36 of 100", y.enough(36), 2);
        Bounds.due("35 of 100", y.enough(35), 3);
    }

    private static void enoughNone() {
        Bounds.says("the least k (1 .. 6) ..; NONE.");
        ShadeClasses six = Bounds.of(0, 1, 2, 3, 4, 5);
        Bounds.due("six are enough for six", six.enough(0), 6);
        ShadeClasses seven = Bounds.of(0, 1, 2, 3, 4, 5, 6);
        Bounds.due("six are not for seven", seven.enough(0), NONE);
        Bounds.due("1/2 is more than 1 of 100 of 28", seven.enough(1), NONE);
        Bounds.due("1/2 is no more than 2 of 100 of 28", seven.enough(2), 6);
    }
}
