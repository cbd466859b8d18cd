import java.math.BigInteger;
import java.util.ArrayDeque;
import java.util.ArrayList;
import java.util.Deque;
import java.util.HashSet;
import java.util.List;
import java.util.Set;
import java.util.TreeMap;

/** The document, told a second time without any thrift: every parting is tried, fractions are BigIntegers. */
final class Model {
    static final int BAD = -1, STATE = -2, FULL = -3, NONE = -9;

    /** 24!: every mean of 24 places at most is a whole number of parts of it. */
    private static final BigInteger PARTS = factorial(24);

    private record Chart(TreeMap<Integer, Integer> places, int k, int cost, List<Integer> old) {
        Chart withPlaces(TreeMap<Integer, Integer> p) {
            return new Chart(p, k, cost, old);
        }
    }

    private record Best(List<Integer> begins, BigInteger spread) { }

    private Chart chart = new Chart(new TreeMap<>(), 3, 0, null);
    private final StringBuilder text = new StringBuilder();
    private final Deque<Chart> past = new ArrayDeque<>();
    private final Chart[] images = new Chart[2];

    private Chart solved;
    private Best solvedNow;
    private final Best[] solvedLeast = new Best[7];

    private static BigInteger factorial(int n) {
        BigInteger f = BigInteger.ONE;
        for (int i = 2; i <= n; i++) {
            f = f.multiply(BigInteger.valueOf(i));
        }
        return f;
    }

    int type(int c) {
        if (c < 0 || c > 255) {
            return BAD;
        }
        if (text.length() == 150) {
            return FULL;
        }
        text.append((char) c);
        return text.length();
    }

    int clear() {
        int had = text.length();
        text.setLength(0);
        return had;
    }

    private static final class Fault extends RuntimeException {
        private static final long serialVersionUID = 1L;
        final int at;

        Fault(int at) {
            this.at = at;
        }
    }

    /** Reads by falling down the rules; a fault is thrown from wherever it is met. */
    private final class Reading {
        final String told = text.toString();
        int at = 0;
        int tokenAt;

        String token() {
            while (at < told.length() && told.charAt(at) == ' ') {
                at++;
            }
            tokenAt = at;
            if (at == told.length()) {
                return null;
            }
            String rest = told.substring(at);
            String token = rest.replaceFirst("(?s)^([a-z]+|[0-9]+|;).*$", "$1");
            if (!token.matches("[a-z]+|[0-9]+|;") || token.matches("0[0-9]+|[0-9]{4,}")) {
                throw new Fault(at);
            }
            at += token.length();
            return token;
        }

        int numeral(int least, int most) {
            String token = token();
            if (token == null || !token.matches("[0-9]+")) {
                throw new Fault(tokenAt);
            }
            int value = Integer.parseInt(token);
            if (value < least || value > most) {
                throw new Fault(tokenAt);
            }
            return value;
        }

        int all() {
            TreeMap<Integer, Integer> places = new TreeMap<>();
            int k = 0;
            int cost = -1;
            int items = 0;
            for (String token = token(); token != null; token = token()) {
                if (token.equals("p") && places.size() < 24) {
                    int r = numeral(0, 9);
                    int c = numeral(0, 9);
                    if (places.containsKey(r * 10 + c)) {
                        throw new Fault(tokenAt);
                    }
                    places.put(r * 10 + c, numeral(0, 999));
                } else if (token.equals("k") && k == 0) {
                    k = numeral(1, 6);
                } else if (token.equals("c") && cost == -1) {
                    cost = numeral(0, 999);
                } else {
                    throw new Fault(tokenAt);
                }
                if (!";".equals(token())) {
                    throw new Fault(tokenAt);
                }
                items++;
            }
            chart = new Chart(places, k == 0 ? 3 : k, cost == -1 ? 0 : cost, null);
            return items;
        }
    }

    int map() {
        try {
            int items = new Reading().all();
            text.setLength(0);
            past.clear();
            images[0] = null;
            images[1] = null;
            return items;
        } catch (Fault fault) {
            return -10 - fault.at;
        }
    }

    private void change(Chart next) {
        past.push(chart);
        if (past.size() > 10) {
            past.removeLast();
        }
        chart = next;
    }

    private static boolean side(int i) {
        return 0 <= i && i <= 9;
    }

    int puts(int r, int c, int number) {
        if (!side(r) || !side(c) || number < 0 || number > 999) {
            return BAD;
        }
        Integer till = chart.places.get(r * 10 + c);
        if (till == null && chart.places.size() == 24) {
            return FULL;
        }
        TreeMap<Integer, Integer> p = new TreeMap<>(chart.places);
        p.put(r * 10 + c, number);
        change(chart.withPlaces(p));
        return till == null ? NONE : till;
    }

    int drops(int r, int c) {
        if (!side(r) || !side(c)) {
            return BAD;
        }
        if (!chart.places.containsKey(r * 10 + c)) {
            return STATE;
        }
        TreeMap<Integer, Integer> p = new TreeMap<>(chart.places);
        int till = p.remove(r * 10 + c);
        change(chart.withPlaces(p));
        return till;
    }

    int asks(int k) {
        if (k < 1 || k > 6) {
            return BAD;
        }
        int till = chart.k;
        if (till == k) {
            return STATE;
        }
        change(new Chart(chart.places, k, chart.cost, chart.old));
        return till;
    }

    int costs(int cost) {
        if (cost < 0 || cost > 999) {
            return BAD;
        }
        int till = chart.cost;
        if (till == cost) {
            return STATE;
        }
        change(new Chart(chart.places, chart.k, cost, chart.old));
        return till;
    }

    int closes() {
        int answer = moved();
        List<Integer> begins = current().begins;
        List<Integer> borders = begins.isEmpty() ? begins : begins.subList(1, begins.size());
        change(new Chart(chart.places, chart.k, chart.cost, new ArrayList<>(borders)));
        return answer;
    }

    int undo() {
        if (past.isEmpty()) {
            return STATE;
        }
        chart = past.pop();
        return past.size();
    }

    private TreeMap<Integer, Integer> weights() {
        TreeMap<Integer, Integer> weights = new TreeMap<>();
        for (int number : chart.places.values()) {
            weights.merge(number, 1, Integer::sum);
        }
        return weights;
    }

    /** Of the places whose numbers are from .. less than to. */
    private BigInteger spreadOf(int from, int to) {
        BigInteger n = BigInteger.ZERO;
        BigInteger sum = BigInteger.ZERO;
        for (int number : chart.places.values()) {
            if (number >= from && number < to) {
                n = n.add(BigInteger.ONE);
                sum = sum.add(BigInteger.valueOf(number));
            }
        }
        BigInteger mean = PARTS.multiply(sum).divide(n);
        BigInteger all = BigInteger.ZERO;
        for (int number : chart.places.values()) {
            if (number >= from && number < to) {
                BigInteger off = PARTS.multiply(BigInteger.valueOf(number)).subtract(mean);
                all = all.add(off.multiply(off));
            }
        }
        return all;
    }

    private static final int BEYOND = 1000;

    /** Tries all partings in the order of their borders; the first of the least stays. */
    private final class Trial {
        final List<Integer> sorted = new ArrayList<>(weights().keySet());
        final BigInteger[][] spreads;
        final BigInteger[] fees;
        final int runs;
        final int[] begins;
        List<Integer> best = new ArrayList<>();
        BigInteger least;
        BigInteger leastSpread = BigInteger.ZERO;

        Trial(int k, int upTo, boolean withCost) {
            int n = upTo;
            runs = Math.min(k, n);
            begins = new int[runs + 1];
            spreads = new BigInteger[n][n + 1];
            fees = new BigInteger[n];
            for (int i = 0; i < n; i++) {
                for (int j = i + 1; j <= n; j++) {
                    spreads[i][j] = spreadOf(sorted.get(i), j < sorted.size() ? sorted.get(j) : BEYOND);
                }
                boolean dear = withCost && chart.old != null && !chart.old.contains(sorted.get(i));
                fees[i] = dear ? PARTS.multiply(PARTS).multiply(BigInteger.valueOf(chart.cost)) : BigInteger.ZERO;
            }
            if (runs > 0) {
                begins[runs] = n;
                go(1, BigInteger.ZERO, BigInteger.ZERO);
            }
        }

        void go(int run, BigInteger spread, BigInteger fee) {
            int from = begins[run - 1];
            if (run == runs) {
                BigInteger whole = spread.add(spreads[from][begins[runs]]);
                if (least == null || whole.add(fee).compareTo(least) < 0) {
                    least = whole.add(fee);
                    leastSpread = whole;
                    best = new ArrayList<>();
                    for (int i = 0; i < runs; i++) {
                        best.add(sorted.get(begins[i]));
                    }
                }
                return;
            }
            for (int next = from + 1; next < begins[runs]; next++) {
                begins[run] = next;
                go(run + 1, spread.add(spreads[from][next]), fee.add(fees[next]));
            }
        }
    }

    private void freshen() {
        if (solved != chart) {
            solved = chart;
            solvedNow = null;
            java.util.Arrays.fill(solvedLeast, null);
        }
    }

    private Best current() {
        freshen();
        if (solvedNow == null) {
            Trial t = new Trial(chart.k, weights().size(), true);
            solvedNow = new Best(t.best, t.leastSpread);
        }
        return solvedNow;
    }

    private Best leastIn(int k) {
        freshen();
        if (solvedLeast[k] == null) {
            Trial t = new Trial(k, weights().size(), false);
            solvedLeast[k] = new Best(t.best, t.leastSpread);
        }
        return solvedLeast[k];
    }

    private static int runOf(Best best, int number) {
        int run = -1;
        for (int begin : best.begins) {
            if (begin <= number) {
                run++;
            }
        }
        return run;
    }

    int place(int r, int c, int what) {
        if (!side(r) || !side(c) || what < 0 || what > 2) {
            return BAD;
        }
        Integer number = chart.places.get(r * 10 + c);
        if (number == null) {
            return NONE;
        }
        int shade = runOf(current(), number);
        int runs = current().begins.size();
        int tint = runs == 1 ? 255 : 255 - 255 * shade / (runs - 1);
        return what == 0 ? number : what == 1 ? shade : tint;
    }

    int sorted(int i, int what) {
        List<Integer> sorted = new ArrayList<>(weights().keySet());
        if (i < 0 || i >= sorted.size() || what < 0 || what > 2) {
            return BAD;
        }
        int number = sorted.get(i);
        return what == 0 ? number : what == 1 ? weights().get(number) : runOf(current(), number);
    }

    private static int begins(Best best, int i) {
        if (i == -1) {
            return best.begins.size();
        }
        return i >= 0 && i < best.begins.size() ? best.begins.get(i) : BAD;
    }

    int now(int i) {
        return begins(current(), i);
    }

    private static long terms(BigInteger parts, int what) {
        BigInteger whole = PARTS.multiply(PARTS);
        BigInteger common = parts.gcd(whole);
        return (what == 0 ? parts : whole).divide(common).longValueExact();
    }

    long spread(int what) {
        return what == 0 || what == 1 ? terms(current().spread, what) : BAD;
    }

    int moved() {
        List<Integer> begins = current().begins;
        Set<Integer> old = new HashSet<>(chart.old == null ? List.of() : chart.old);
        int strange = 0;
        for (int i = 1; i < begins.size(); i++) {
            if (!old.contains(begins.get(i))) {
                strange++;
            }
        }
        return strange;
    }

    int least(int k, int i) {
        return k >= 1 && k <= 6 ? begins(leastIn(k), i) : BAD;
    }

    long gain(int k, int what) {
        if (k < 1 || k > 6 || what < 0 || what > 3 || (what >= 2 && k == 1)) {
            return BAD;
        }
        if (what < 2) {
            return terms(leastIn(k).spread, what);
        }
        return terms(leastIn(k - 1).spread.subtract(leastIn(k).spread), what - 2);
    }

    /** Each last run is tried, the lowest first, with the best of all that is ahead of it. */
    int last(int k, int j) {
        List<Integer> sorted = new ArrayList<>(weights().keySet());
        if (k < 1 || k > 6 || j < 1 || j > sorted.size()) {
            return BAD;
        }
        if (j < k) {
            return NONE;
        }
        if (k == 1) {
            return 0;
        }
        int to = j < sorted.size() ? sorted.get(j) : BEYOND;
        int lowest = NONE;
        BigInteger least = null;
        for (int begin = k - 1; begin < j; begin++) {
            BigInteger ahead = new Trial(k - 1, begin, false).leastSpread;
            BigInteger whole = ahead.add(spreadOf(sorted.get(begin), to));
            if (least == null || whole.compareTo(least) < 0) {
                least = whole;
                lowest = begin;
            }
        }
        return lowest;
    }

    int enough(int x) {
        if (x < 0 || x > 100) {
            return BAD;
        }
        for (int k = 1; k <= 6; k++) {
            BigInteger hundred = leastIn(k).spread.multiply(BigInteger.valueOf(100));
            if (hundred.compareTo(leastIn(1).spread.multiply(BigInteger.valueOf(x))) <= 0) {
                return k;
            }
        }
        return NONE;
    }

    int keep(int image) {
        if (image != 0 && image != 1) {
            return BAD;
        }
        images[image] = chart;
        return chart.places.size();
    }

    int back(int image) {
        if (image != 0 && image != 1) {
            return BAD;
        }
        if (images[image] == null) {
            return STATE;
        }
        chart = images[image];
        past.clear();
        return chart.places.size();
    }

    int count(int what) {
        switch (what) {
            case 0: return chart.places.size();
            case 1: return weights().size();
            case 2: return chart.k;
            case 3: return chart.cost;
            case 4: return chart.old == null ? NONE : chart.old.size();
            case 5: return chart.places.values().stream().mapToInt(Integer::intValue).sum();
            case 6: return past.size();
            case 7: return text.length();
            default: return BAD;
        }
    }
}
