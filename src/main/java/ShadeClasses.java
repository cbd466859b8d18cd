import java.util.Arrays;

/** Classes of a shaded map; ../shared/DOC.md says what each call does and answers. */
public final class ShadeClasses {
    public static final int BAD = -1, STATE = -2, FULL = -3, NONE = -9;

    private static final int SIDE = 10;
    private static final int MOST_PLACES = 24;
    private static final int MOST_NUMBER = 999;
    private static final int MOST_CLASSES = 6;
    private static final int FIRST_CLASSES = 3;
    private static final int MOST_COST = 999;
    private static final int MOST_BYTES = 150;
    private static final int MOST_UNDONE = 10;
    private static final int IMAGES = 2;
    private static final int NO_NUMBER = -1;
    private static final int FAULT_AT_START = -10;

    // The least common multiple of 1 .. 24: a SPREAD is a whole number of its parts, and the
    // largest there can be, 24 * 999 * 999 / 4, still fits a long a hundred times in such parts.
    private static final long PARTS = 5354228880L;

    // Euclid's way through two longs never takes more steps than this.
    private static final int MOST_STEPS = 100;

    private final Chart chart;
    private final History history;
    private final Chart[] images;
    private final boolean[] kept;
    private final MapText text;
    private final Partings partings;

    public ShadeClasses() {
        chart = new Chart();
        history = new History();
        images = new Chart[IMAGES];
        for (int i = 0; i < IMAGES; i++) {
            images[i] = new Chart();
        }
        kept = new boolean[IMAGES];
        text = new MapText();
        partings = new Partings(chart);
    }

    // ---- the map

    public int type(int c) {
        if (c < 0 || c > 255) {
            return BAD;
        }
        return text.append(c) ? text.length : FULL;
    }

    public int clear() {
        int had = text.length;
        text.length = 0;
        return had;
    }

    public int map() {
        int items = text.read();
        if (items < 0) {
            return items;
        }
        chart.become(text.chart);
        text.length = 0;
        history.forget();
        for (int i = 0; i < IMAGES; i++) {
            kept[i] = false;
        }
        partings.forget();
        return items;
    }

    public int puts(int r, int c, int number) {
        int cell = cellOf(r, c);
        if (cell < 0 || number < 0 || number > MOST_NUMBER) {
            return BAD;
        }
        int till = chart.numbers[cell];
        if (till == NO_NUMBER && chart.places() >= MOST_PLACES) {
            return FULL;
        }
        aheadOfChange();
        chart.numbers[cell] = number;
        return till == NO_NUMBER ? NONE : till;
    }

    public int drops(int r, int c) {
        int cell = cellOf(r, c);
        if (cell < 0) {
            return BAD;
        }
        int till = chart.numbers[cell];
        if (till == NO_NUMBER) {
            return STATE;
        }
        aheadOfChange();
        chart.numbers[cell] = NO_NUMBER;
        return till;
    }

    public int asks(int k) {
        if (!isClasses(k)) {
            return BAD;
        }
        int till = chart.classes;
        if (till == k) {
            return STATE;
        }
        aheadOfChange();
        chart.classes = k;
        return till;
    }

    public int costs(int cost) {
        if (cost < 0 || cost > MOST_COST) {
            return BAD;
        }
        int till = chart.cost;
        if (till == cost) {
            return STATE;
        }
        aheadOfChange();
        chart.cost = cost;
        return till;
    }

    public int closes() {
        Parting parting = partings.ofNow();
        Ladder ladder = partings.rungs();
        int strange = strangeBorders(parting, ladder);
        aheadOfChange();
        chart.olds = Math.max(parting.runs - 1, 0);
        for (int i = 0; i < chart.olds && i < chart.old.length; i++) {
            chart.old[i] = ladder.numberAt(parting.beginOf(i + 1));
        }
        return strange;
    }

    public int undo() {
        if (history.known == 0) {
            return STATE;
        }
        history.recall(chart);
        partings.forget();
        return history.known;
    }

    // ---- what there is

    public int place(int r, int c, int what) {
        int cell = cellOf(r, c);
        if (cell < 0 || what < 0 || what > 2) {
            return BAD;
        }
        int number = chart.numbers[cell];
        if (number == NO_NUMBER) {
            return NONE;
        }
        if (what == 0) {
            return number;
        }
        Parting parting = partings.ofNow();
        int shade = parting.runOf(partings.rungs().rankOf(number));
        return what == 1 ? shade : tintOf(shade, parting.runs);
    }

    public int sorted(int i, int what) {
        Ladder ladder = partings.rungs();
        if (i < 0 || i >= ladder.size || what < 0 || what > 2) {
            return BAD;
        }
        if (what == 0) {
            return ladder.numberAt(i);
        }
        return what == 1 ? ladder.weightAt(i) : partings.ofNow().runOf(i);
    }

    public int now(int i) {
        return beginning(partings.ofNow(), i);
    }

    public long spread(int what) {
        if (what < 0 || what > 1) {
            return BAD;
        }
        return inLeastTerms(partings.ofNow().spread, what == 0);
    }

    public int moved() {
        return strangeBorders(partings.ofNow(), partings.rungs());
    }

    // ---- partings

    public int least(int k, int i) {
        return isClasses(k) ? beginning(partings.leastIn(k), i) : BAD;
    }

    public long gain(int k, int what) {
        if (!isClasses(k) || what < 0 || what > 3 || (what > 1 && k < 2)) {
            return BAD;
        }
        long spread = partings.leastIn(k).spread;
        long asked = what < 2 ? spread : partings.leastIn(k - 1).spread - spread;
        return inLeastTerms(asked, what % 2 == 0);
    }

    public int last(int k, int j) {
        if (!isClasses(k) || j < 1 || j > partings.rungs().size) {
            return BAD;
        }
        return partings.lastBegin(k, j);
    }

    public int enough(int x) {
        if (x < 0 || x > 100) {
            return BAD;
        }
        long bound = x * partings.leastIn(1).spread;
        for (int k = 1; k <= MOST_CLASSES; k++) {
            if (100 * partings.leastIn(k).spread <= bound) {
                return k;
            }
        }
        return NONE;
    }

    // ---- images

    public int keep(int image) {
        if (image < 0 || image >= IMAGES) {
            return BAD;
        }
        images[image].become(chart);
        kept[image] = true;
        return chart.places();
    }

    public int back(int image) {
        if (image < 0 || image >= IMAGES) {
            return BAD;
        }
        if (!kept[image]) {
            return STATE;
        }
        chart.become(images[image]);
        history.forget();
        partings.forget();
        return chart.places();
    }

    public int count(int what) {
        switch (what) {
            case 0: return chart.places();
            case 1: return partings.rungs().size;
            case 2: return chart.classes;
            case 3: return chart.cost;
            case 4: return chart.olds;
            case 5: return chart.sum();
            case 6: return history.known;
            case 7: return text.length;
            default: return BAD;
        }
    }

    // ---- what several calls need

    private void aheadOfChange() {
        history.remember(chart);
        partings.forget();
    }

    private int beginning(Parting parting, int i) {
        if (i < -1 || i >= parting.runs) {
            return BAD;
        }
        return i == -1 ? parting.runs : partings.rungs().numberAt(parting.beginOf(i));
    }

    private int strangeBorders(Parting parting, Ladder ladder) {
        int strange = 0;
        for (int run = 1; run < parting.runs; run++) {
            if (!chart.isOld(ladder.numberAt(parting.beginOf(run)))) {
                strange++;
            }
        }
        return strange;
    }

    private static boolean isClasses(int k) {
        return k >= 1 && k <= MOST_CLASSES;
    }

    private static boolean isSide(int i) {
        return i >= 0 && i < SIDE;
    }

    private static int cellOf(int r, int c) {
        return isSide(r) && isSide(c) ? r * SIDE + c : -1;
    }

    private static int tintOf(int shade, int runs) {
        if (runs < 2) {
            return 255;
        }
        return 255 - (int) (255f * (float) shade / (float) (runs - 1));
    }

    private static long inLeastTerms(long parts, boolean upper) {
        long common = commonDivisor(parts, PARTS);
        if (common < 1) {
            return BAD;
        }
        return (upper ? parts : PARTS) / common;
    }

    private static long commonDivisor(long one, long other) {
        long a = one;
        long b = other;
        for (int step = 0; step < MOST_STEPS && b != 0; step++) {
            long rest = a % b;
            a = b;
            b = rest;
        }
        return a;
    }

    /** All that is UNDONE and that IMAGES keep: PLACES, K, COST, OLD. */
    private static final class Chart {
        final int[] numbers = new int[SIDE * SIDE];
        final int[] old = new int[MOST_CLASSES - 1];
        int olds;
        int classes;
        int cost;

        Chart() {
            empty();
        }

        void empty() {
            Arrays.fill(numbers, NO_NUMBER);
            olds = NONE;
            classes = FIRST_CLASSES;
            cost = 0;
        }

        void become(Chart other) {
            System.arraycopy(other.numbers, 0, numbers, 0, numbers.length);
            System.arraycopy(other.old, 0, old, 0, old.length);
            olds = other.olds;
            classes = other.classes;
            cost = other.cost;
        }

        int places() {
            int places = 0;
            for (int number : numbers) {
                if (number != NO_NUMBER) {
                    places++;
                }
            }
            return places;
        }

        int sum() {
            int sum = 0;
            for (int number : numbers) {
                if (number != NO_NUMBER) {
                    sum += number;
                }
            }
            return sum;
        }

        boolean isOld(int number) {
            for (int i = 0; i < olds && i < old.length; i++) {
                if (old[i] == number) {
                    return true;
                }
            }
            return false;
        }

        // Without an edition a BORDER costs nothing.
        long feeOf(int number) {
            return olds == NONE || isOld(number) ? 0 : cost * PARTS;
        }
    }

    /** Charts as they were ahead of the latest changes, in a ring that loses the oldest. */
    private static final class History {
        final Chart[] charts = new Chart[MOST_UNDONE];
        int next;
        int known;

        History() {
            for (int i = 0; i < MOST_UNDONE; i++) {
                charts[i] = new Chart();
            }
        }

        void remember(Chart chart) {
            charts[next].become(chart);
            next = (next + 1) % MOST_UNDONE;
            known = Math.min(known + 1, MOST_UNDONE);
        }

        void recall(Chart chart) {
            next = (next + MOST_UNDONE - 1) % MOST_UNDONE;
            chart.become(charts[next]);
            known = Math.max(known - 1, 0);
        }

        void forget() {
            known = 0;
        }
    }

    /** THE TEXT, and what it tells. */
    private static final class MapText {
        static final int BLANK = ' ';

        // What may stand next.
        static final int ITEM = 0;
        static final int ROW = 1;
        static final int COLUMN = 2;
        static final int NUMBER = 3;
        static final int CLASSES = 4;
        static final int COST = 5;
        static final int END = 6;

        final int[] bytes = new int[MOST_BYTES];
        final Chart chart = new Chart();
        int length;
        int awaited;
        int items;
        int placesBegun;
        boolean classesBegun;
        boolean costBegun;
        int row;
        int cell;

        boolean append(int c) {
            if (length >= MOST_BYTES) {
                return false;
            }
            bytes[length] = c;
            length++;
            return true;
        }

        /** How many ITEMS, all of them in chart then; or -10 less FAULT. */
        int read() {
            begin();
            int at = 0;
            for (int turn = 0; turn < MOST_BYTES && at < length; turn++) {
                if (bytes[at] == BLANK) {
                    at++;
                    continue;
                }
                int end = tokenEnd(at);
                if (end == at || !takes(at, end)) {
                    return FAULT_AT_START - at;
                }
                at = end;
            }
            return awaited == ITEM ? items : FAULT_AT_START - length;
        }

        private void begin() {
            chart.empty();
            awaited = ITEM;
            items = 0;
            placesBegun = 0;
            classesBegun = false;
            costBegun = false;
        }

        /** Where the TOKEN that begins here ends; just here, if none begins. */
        private int tokenEnd(int at) {
            if (bytes[at] == ';') {
                return at + 1;
            }
            boolean letters = isLetter(bytes[at]);
            int end = at;
            while (end < length && (letters ? isLetter(bytes[end]) : isDigit(bytes[end]))) {
                end++;
            }
            return end;
        }

        private boolean takes(int at, int end) {
            if (isLetter(bytes[at])) {
                return awaited == ITEM && end == at + 1 && takesLetter(bytes[at]);
            }
            if (isDigit(bytes[at])) {
                return takesNumeral(numeral(at, end));
            }
            return takesEnd();
        }

        private boolean takesLetter(int letter) {
            switch (letter) {
                case 'p': return beginsPlace();
                case 'k': return beginsClasses();
                case 'c': return beginsCost();
                default: return false;
            }
        }

        private boolean beginsPlace() {
            if (placesBegun >= MOST_PLACES) {
                return false;
            }
            placesBegun++;
            awaited = ROW;
            return true;
        }

        private boolean beginsClasses() {
            if (classesBegun) {
                return false;
            }
            classesBegun = true;
            awaited = CLASSES;
            return true;
        }

        private boolean beginsCost() {
            if (costBegun) {
                return false;
            }
            costBegun = true;
            awaited = COST;
            return true;
        }

        /** Its value; -1: above 999, or with a 0 ahead of others. */
        private int numeral(int at, int end) {
            if (end - at > 3 || (bytes[at] == '0' && end - at > 1)) {
                return -1;
            }
            int value = 0;
            for (int i = at; i < end; i++) {
                value = value * 10 + bytes[i] - '0';
            }
            return value;
        }

        private boolean takesNumeral(int value) {
            if (value < 0) {
                return false;
            }
            switch (awaited) {
                case ROW: return takesRow(value);
                case COLUMN: return takesColumn(value);
                case NUMBER: return takesNumber(value);
                case CLASSES: return takesClasses(value);
                case COST: return takesCost(value);
                default: return false;
            }
        }

        private boolean takesRow(int value) {
            if (!isSide(value)) {
                return false;
            }
            row = value;
            awaited = COLUMN;
            return true;
        }

        private boolean takesColumn(int value) {
            int next = cellOf(row, value);
            if (next < 0 || chart.numbers[next] != NO_NUMBER) {
                return false;
            }
            cell = next;
            awaited = NUMBER;
            return true;
        }

        private boolean takesNumber(int value) {
            if (value > MOST_NUMBER) {
                return false;
            }
            chart.numbers[cell] = value;
            awaited = END;
            return true;
        }

        private boolean takesClasses(int value) {
            if (!isClasses(value)) {
                return false;
            }
            chart.classes = value;
            awaited = END;
            return true;
        }

        private boolean takesCost(int value) {
            if (value > MOST_COST) {
                return false;
            }
            chart.cost = value;
            awaited = END;
            return true;
        }

        private boolean takesEnd() {
            if (awaited != END) {
                return false;
            }
            items++;
            awaited = ITEM;
            return true;
        }

        private static boolean isLetter(int c) {
            return c >= 'a' && c <= 'z';
        }

        private static boolean isDigit(int c) {
            return c >= '0' && c <= '9';
        }
    }

    /** SORTED, each with its WEIGHT, and the SPREAD of every run of them, in PARTS. */
    private static final class Ladder {
        final int[] numbers = new int[MOST_PLACES];
        final int[] weights = new int[MOST_PLACES];
        final long[][] spreads = new long[MOST_PLACES + 1][MOST_PLACES + 1];
        int size;

        void build(Chart chart) {
            size = 0;
            for (int number : chart.numbers) {
                if (number != NO_NUMBER) {
                    add(number);
                }
            }
            for (int from = 0; from < size; from++) {
                measureFrom(from);
            }
        }

        private void add(int number) {
            int i = rankOf(number);
            if (i < size && numbers[i] == number) {
                weights[i]++;
                return;
            }
            if (size >= MOST_PLACES) {
                return;
            }
            System.arraycopy(numbers, i, numbers, i + 1, size - i);
            System.arraycopy(weights, i, weights, i + 1, size - i);
            numbers[i] = number;
            weights[i] = 1;
            size++;
        }

        // The squares of NUMBER less their mean are together
        // (weight * squares - sum * sum) / weight.
        private void measureFrom(int from) {
            long weight = 0;
            long sum = 0;
            long squares = 0;
            for (int i = from; i < size; i++) {
                weight += weights[i];
                sum += (long) weights[i] * numbers[i];
                squares += (long) weights[i] * numbers[i] * numbers[i];
                if (weight > 0) {
                    spreads[from][i + 1] = (weight * squares - sum * sum) * (PARTS / weight);
                }
            }
        }

        /** How many of SORTED are less than the number. */
        int rankOf(int number) {
            int i = 0;
            while (i < size && numbers[i] < number) {
                i++;
            }
            return i;
        }

        int numberAt(int i) {
            return i >= 0 && i < size ? numbers[i] : NONE;
        }

        int weightAt(int i) {
            return i >= 0 && i < size ? weights[i] : 0;
        }
    }

    /** A PARTING: at which of SORTED its runs begin, and its SPREAD in PARTS. */
    private static final class Parting {
        final int[] begins = new int[MOST_CLASSES];
        int runs;
        long spread;

        int beginOf(int run) {
            return run >= 0 && run < runs && run < MOST_CLASSES ? begins[run] : NONE;
        }

        int runOf(int rank) {
            int run = 0;
            while (run + 1 < runs && beginOf(run + 1) <= rank) {
                run++;
            }
            return run;
        }
    }

    /**
     * For each number of runs, and each of SORTED as their beginning, the best parting of all from
     * there on. It is built from behind: so the way on from the front meets, among equals, the one
     * whose second run begins lowest, then the third.
     */
    private static final class Ways {
        final long[][] best = new long[MOST_CLASSES + 1][MOST_PLACES + 1];
        final int[][] second = new int[MOST_CLASSES + 1][MOST_PLACES + 1];
        final long[] fees = new long[MOST_PLACES + 1];

        void build(Ladder ladder, int most) {
            int size = ladder.size;
            for (int from = 0; from < size; from++) {
                best[1][from] = ladder.spreads[from][size];
                second[1][from] = size;
            }
            for (int runs = 2; runs <= most && runs <= MOST_CLASSES; runs++) {
                for (int from = 0; from + runs <= size; from++) {
                    choose(ladder, runs, from);
                }
            }
        }

        private void choose(Ladder ladder, int runs, int from) {
            long least = Long.MAX_VALUE;
            int chosen = from + 1;
            for (int next = from + 1; next + runs - 1 <= ladder.size; next++) {
                long sum = ladder.spreads[from][next] + fees[next] + best[runs - 1][next];
                if (sum < least) {
                    least = sum;
                    chosen = next;
                }
            }
            best[runs][from] = least;
            second[runs][from] = chosen;
        }

        void follow(Ladder ladder, int wanted, Parting parting) {
            int runs = Math.min(wanted, ladder.size);
            parting.runs = runs;
            parting.spread = 0;
            int from = 0;
            for (int run = 0; run < runs && run < MOST_CLASSES && from < ladder.size; run++) {
                int next = second[runs - run][from];
                parting.begins[run] = from;
                parting.spread += ladder.spreads[from][next];
                from = next;
            }
        }
    }

    /** LAST: built from the front, as its partings are of the first of SORTED. */
    private static final class LastTable {
        final long[][] best = new long[MOST_CLASSES + 1][MOST_PLACES + 1];
        final int[][] begins = new int[MOST_CLASSES + 1][MOST_PLACES + 1];

        void build(Ladder ladder) {
            for (int j = 1; j <= ladder.size; j++) {
                best[1][j] = ladder.spreads[0][j];
                begins[1][j] = 0;
            }
            for (int k = 2; k <= MOST_CLASSES; k++) {
                for (int j = 1; j <= ladder.size; j++) {
                    choose(ladder, k, j);
                }
            }
        }

        private void choose(Ladder ladder, int k, int j) {
            long least = Long.MAX_VALUE;
            int chosen = NONE;
            for (int begin = k - 1; begin < j; begin++) {
                long sum = best[k - 1][begin] + ladder.spreads[begin][j];
                if (sum < least) {
                    least = sum;
                    chosen = begin;
                }
            }
            best[k][j] = least;
            begins[k][j] = chosen;
        }
    }

    /** What follows from the chart, each part found when it is first asked for behind a change. */
    private static final class Partings {
        final Chart chart;
        final Ladder ladder = new Ladder();
        final Ways dearWays = new Ways();
        final Ways freeWays = new Ways();
        final LastTable table = new LastTable();
        final Parting current = new Parting();
        final Parting[] leasts = new Parting[MOST_CLASSES];
        boolean ladderStands;
        boolean currentStands;
        boolean leastsStand;
        boolean tableStands;

        Partings(Chart chart) {
            this.chart = chart;
            for (int i = 0; i < MOST_CLASSES; i++) {
                leasts[i] = new Parting();
            }
        }

        void forget() {
            ladderStands = false;
            currentStands = false;
            leastsStand = false;
            tableStands = false;
        }

        Ladder rungs() {
            if (!ladderStands) {
                ladder.build(chart);
                ladderStands = true;
            }
            return ladder;
        }

        Parting ofNow() {
            if (!currentStands) {
                rungs();
                for (int i = 0; i < ladder.size; i++) {
                    dearWays.fees[i] = chart.feeOf(ladder.numbers[i]);
                }
                dearWays.build(ladder, chart.classes);
                dearWays.follow(ladder, chart.classes, current);
                currentStands = true;
            }
            return current;
        }

        Parting leastIn(int k) {
            if (!leastsStand) {
                rungs();
                freeWays.build(ladder, MOST_CLASSES);
                for (int i = 0; i < MOST_CLASSES; i++) {
                    freeWays.follow(ladder, i + 1, leasts[i]);
                }
                leastsStand = true;
            }
            return leasts[Math.max(Math.min(k, MOST_CLASSES), 1) - 1];
        }

        int lastBegin(int k, int j) {
            rungs();
            if (!isClasses(k) || j < 1 || j > ladder.size) {
                return NONE;
            }
            if (!tableStands) {
                table.build(ladder);
                tableStands = true;
            }
            return table.begins[k][j];
        }
    }
}
