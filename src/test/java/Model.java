import java.math.BigInteger;
import java.util.ArrayList;
import java.util.List;

/**
 * The document a second time, in its plainest words and by other ways than the class: lists, big
 * fractions, worths by taking plants out one by one, and everything worked out anew at each call.
 */
final class Model {
    private static final long NONE = -1;

    private State now = new State();
    private State then = null;
    private final List<long[]> claims = new ArrayList<>();
    private final long[][] placed = new long[4][10];
    private final StringBuilder text = new StringBuilder();
    private List<Integer> drawn = new ArrayList<>();

    /** A fraction, its below above 0. */
    static final class Fraction {
        static final Fraction ZERO = of(0, 1);
        static final Fraction ONE = of(1, 1);
        final BigInteger above;
        final BigInteger below;

        private Fraction(BigInteger a, BigInteger b) {
            BigInteger common = a.gcd(b);
            BigInteger by = b.signum() < 0 ? common.negate() : common;
            above = a.divide(by);
            below = b.divide(by);
        }

        static Fraction of(long a, long b) {
            return new Fraction(BigInteger.valueOf(a), BigInteger.valueOf(b));
        }

        Fraction plus(Fraction o) {
            return new Fraction(above.multiply(o.below).add(o.above.multiply(below)), below.multiply(o.below));
        }

        Fraction minus(Fraction o) {
            return plus(new Fraction(o.above.negate(), o.below));
        }

        Fraction times(Fraction o) {
            return new Fraction(above.multiply(o.above), below.multiply(o.below));
        }

        Fraction over(Fraction o) {
            return new Fraction(above.multiply(o.below), below.multiply(o.above));
        }

        int sign() {
            return above.signum();
        }

        long part(int part) {
            return (part == 0 ? above : below).longValueExact();
        }

        long down() {
            return above.divide(below).longValueExact();
        }
    }

    /** One plant: its shares to others, the kinds that it is the point of, its average or null. */
    static final class Plant {
        Fraction[] shares = {Fraction.ZERO, Fraction.ZERO, Fraction.ZERO, Fraction.ZERO, Fraction.ZERO};
        boolean[] point = new boolean[4];
        Fraction average = null;

        Plant copy() {
            Plant p = new Plant();
            p.shares = shares.clone();
            p.point = point.clone();
            p.average = average;
            return p;
        }

        Fraction all() {
            Fraction sum = Fraction.ZERO;
            for (Fraction f : shares) {
                sum = sum.plus(f);
            }
            return sum;
        }

        boolean goesOn(int kind) {
            return !point[kind] && all().sign() > 0;
        }

        boolean bare(int kind) {
            return !point[kind] && all().sign() == 0 && average == null;
        }
    }

    /** A feed's row. */
    static final class Feed {
        int plant;
        int kind;
        long grams;
        int year;
        int country;
    }

    /** All that a solve looks at. */
    static final class State {
        final List<Plant> plants = new ArrayList<>();
        final List<Feed> feeds = new ArrayList<>();
        long[] metals = new long[10];

        State copy() {
            State s = new State();
            for (Plant p : plants) {
                s.plants.add(p.copy());
            }
            s.feeds.addAll(feeds);
            s.metals = metals.clone();
            return s;
        }

        /** All plants that can be come to from a plant, itself too, for a kind. */
        boolean[] reached(int from, int kind) {
            boolean[] seen = new boolean[plants.size()];
            List<Integer> due = new ArrayList<>();
            due.add(from);
            while (!due.isEmpty()) {
                int p = due.remove(due.size() - 1);
                if (seen[p]) {
                    continue;
                }
                seen[p] = true;
                if (plants.get(p).goesOn(kind)) {
                    for (int to = 0; to < plants.size(); to++) {
                        if (plants.get(p).shares[to].sign() > 0) {
                            due.add(to);
                        }
                    }
                }
            }
            return seen;
        }

        boolean roundForEver(int plant, int kind) {
            boolean[] seen = reached(plant, kind);
            for (int p = 0; p < seen.length; p++) {
                boolean passesAll = plants.get(p).goesOn(kind) && plants.get(p).all().minus(Fraction.ONE).sign() == 0;
                if (seen[p] && !passesAll) {
                    return false;
                }
            }
            return true;
        }

        /** Takes the plants that pass things on out of the net one by one, all but the asked one. */
        Fraction worth(int plant, int kind) {
            int n = plants.size();
            Fraction[][] go = new Fraction[n][n];
            Fraction[] counts = new Fraction[n];
            for (int p = 0; p < n; p++) {
                Plant one = plants.get(p);
                boolean on = one.goesOn(kind);
                counts[p] = one.point[kind] ? Fraction.ONE
                        : on || one.average == null ? Fraction.ZERO : Fraction.ONE.minus(one.average);
                for (int q = 0; q < n; q++) {
                    go[p][q] = on ? one.shares[q] : Fraction.ZERO;
                }
            }
            for (int out = n - 1; out >= 0; out--) {
                if (out != plant) {
                    takeOut(out, go, counts);
                }
            }
            return counts[plant].over(Fraction.ONE.minus(go[plant][plant]));
        }

        private static void takeOut(int out, Fraction[][] go, Fraction[] counts) {
            int n = counts.length;
            Fraction leaves = Fraction.ONE.minus(go[out][out]);
            for (int p = 0; p < n; p++) {
                if (p == out) {
                    continue;
                }
                Fraction by = go[p][out].over(leaves);
                for (int q = 0; q < n; q++) {
                    if (q != out) {
                        go[p][q] = go[p][q].plus(by.times(go[out][q]));
                    }
                }
                counts[p] = counts[p].plus(by.times(counts[out]));
                go[p][out] = Fraction.ZERO;
            }
        }

        Fraction counted(int kind, int year, int country) {
            Fraction sum = kind == 3 && country == 0 ? Fraction.of(metals[year], 1) : Fraction.ZERO;
            for (Feed f : feeds) {
                if (f.kind == kind && f.year == year && f.country == country) {
                    sum = sum.plus(worth(f.plant, kind).times(Fraction.of(f.grams, 1)));
                }
            }
            return sum;
        }

        Fraction counted(int kind, int year) {
            Fraction sum = Fraction.ZERO;
            for (int country = 0; country < 4; country++) {
                sum = sum.plus(counted(kind, year, country));
            }
            return sum;
        }

        Fraction ofPlant(int plant, int kind, int year) {
            Fraction sum = Fraction.ZERO;
            for (Feed f : feeds) {
                if (f.plant == plant && f.kind == kind && f.year == year) {
                    sum = sum.plus(worth(plant, kind).times(Fraction.of(f.grams, 1)));
                }
            }
            return sum;
        }

        boolean told(int plant) {
            for (Feed f : feeds) {
                if (f.grams > 0 && plants.get(plant).bare(f.kind) && reached(f.plant, f.kind)[plant]) {
                    return true;
                }
            }
            return false;
        }
    }

    private static boolean in(long n, long least, long most) {
        return least <= n && n <= most;
    }

    private static boolean cell(int kind, int year) {
        return in(kind, 0, 3) && in(year, 0, 9);
    }

    private boolean isPlant(int plant) {
        return in(plant, 0, now.plants.size() - 1);
    }

    private static Fraction fraction(long above, long below) {
        boolean ok = List.of(1L, 2L, 5L, 10L).contains(below) && in(above, 0, below);
        return ok ? Fraction.of(above, below) : null;
    }

    long plant() {
        if (now.plants.size() == 5) {
            return NONE;
        }
        now.plants.add(new Plant());
        return now.plants.size() - 1;
    }

    boolean share(int plant, int to, long above, long below) {
        Fraction f = fraction(above, below);
        if (!isPlant(plant) || !isPlant(to) || f == null) {
            return false;
        }
        Plant p = now.plants.get(plant);
        Fraction before = p.shares[to];
        p.shares[to] = f;
        if (p.all().minus(Fraction.ONE).sign() > 0) {
            p.shares[to] = before;
            return false;
        }
        return true;
    }

    boolean point(int plant, int kind) {
        if (!isPlant(plant) || !in(kind, 0, 3) || now.plants.get(plant).point[kind]) {
            return false;
        }
        now.plants.get(plant).point[kind] = true;
        return true;
    }

    boolean average(int plant, long above, long below) {
        Fraction f = fraction(above, below);
        if (!isPlant(plant) || f == null) {
            return false;
        }
        now.plants.get(plant).average = f;
        return true;
    }

    boolean feed(int plant, int kind, long grams, int year, int country) {
        boolean such = isPlant(plant) && cell(kind, year) && in(country, 0, 3);
        if (!such || !in(grams, 0, 1000000000L) || now.feeds.size() == 60) {
            return false;
        }
        Feed f = new Feed();
        f.plant = plant;
        f.kind = kind;
        f.grams = grams;
        f.year = year;
        f.country = country;
        now.feeds.add(f);
        return true;
    }

    boolean metals(int year, long grams) {
        if (!in(year, 0, 9) || !in(grams, 0, 1000000000L)) {
            return false;
        }
        now.metals[year] = grams;
        return true;
    }

    boolean placed(int kind, int year, long grams) {
        if (!cell(kind, year) || !in(grams, 0, 100000000000L)) {
            return false;
        }
        placed[kind][year] = grams;
        return true;
    }

    long solve() {
        for (int p = 0; p < now.plants.size(); p++) {
            for (int kind = 0; kind < 4; kind++) {
                if (now.roundForEver(p, kind)) {
                    return 1 + p;
                }
            }
        }
        then = now.copy();
        claims.clear();
        return 0;
    }

    long counted(int kind, int year, int part) {
        if (then == null || !cell(kind, year) || !in(part, 0, 1)) {
            return NONE;
        }
        return then.counted(kind, year).part(part);
    }

    long rate(int kind, int year, int part) {
        if (then == null || !cell(kind, year) || !in(part, 0, 1)) {
            return NONE;
        }
        if (placed[kind][year] == 0) {
            return 0;
        }
        return then.counted(kind, year, 0).over(Fraction.of(placed[kind][year], 1)).part(part);
    }

    long twice(int k) {
        List<Integer> list = new ArrayList<>();
        for (int p = 0; p < now.plants.size(); p++) {
            for (int kind = 0; kind < 4; kind++) {
                if (now.plants.get(p).point[kind] && now.plants.get(p).average != null) {
                    list.add(4 * p + kind);
                }
            }
        }
        return in(k, 0, list.size() - 1) ? list.get(k) : NONE;
    }

    long told(int k) {
        List<Integer> list = new ArrayList<>();
        for (int p = 0; then != null && p < then.plants.size(); p++) {
            if (then.told(p)) {
                list.add(p);
            }
        }
        return in(k, 0, list.size() - 1) ? list.get(k) : NONE;
    }

    boolean once() {
        for (int kind = 0; then != null && kind < 4; kind++) {
            for (int year = 0; year < 10; year++) {
                long fed = kind == 3 ? then.metals[year] : 0;
                for (Feed f : then.feeds) {
                    fed += f.kind == kind && f.year == year ? f.grams : 0;
                }
                if (then.counted(kind, year).minus(Fraction.of(fed, 1)).sign() > 0) {
                    return false;
                }
            }
        }
        return true;
    }

    /** The stock, by going through the claims again from the first one on. */
    private long[] stocks(int country, int kind) {
        long[] stock = new long[10];
        for (int year = 0; year < 10; year++) {
            stock[year] = then.counted(kind, year, country).down();
        }
        for (long[] c : claims) {
            if (c[0] == country && c[1] == kind) {
                long due = c[3];
                for (int year = (int) Math.max(0, c[2] - 2); year <= c[2]; year++) {
                    long some = Math.min(due, stock[year]);
                    stock[year] -= some;
                    due -= some;
                }
            }
        }
        return stock;
    }

    long claim(int country, int kind, int year, long grams) {
        if (then == null || !in(country, 0, 3) || !cell(kind, year) || !in(grams, 1, 1000000000000L)) {
            return NONE;
        }
        long[] stock = stocks(country, kind);
        long sum = stock[year] + (year > 0 ? stock[year - 1] : 0) + (year > 1 ? stock[year - 2] : 0);
        if (sum < grams) {
            return NONE;
        }
        claims.add(new long[] {country, kind, year, grams});
        return sum - grams;
    }

    long left(int country, int kind, int year) {
        if (then == null || !in(country, 0, 3) || !cell(kind, year)) {
            return NONE;
        }
        return stocks(country, kind)[year];
    }

    long open(int yearA, int yearB, int k, int part) {
        boolean such = in(yearA, 0, 9) && in(yearB, 0, 9) && in(part, 0, 1) && in(k, 0, 4L * now.plants.size() - 1);
        if (then == null || !such) {
            return 0;
        }
        return then.ofPlant(k / 4, k % 4, yearB).minus(then.ofPlant(k / 4, k % 4, yearA)).part(part);
    }

    long audit(long seed, int n) {
        if (!in(n, 1, now.feeds.size())) {
            return NONE;
        }
        List<Integer> list = new ArrayList<>();
        for (int row = 0; row < now.feeds.size(); row++) {
            list.add(row);
        }
        BigInteger x = BigInteger.valueOf(seed);
        for (int i = 0; i < n; i++) {
            x = x.multiply(new BigInteger("6364136223846793005")).add(new BigInteger("1442695040888963407"))
                    .mod(BigInteger.ONE.shiftLeft(64));
            int at = i + x.shiftRight(33).mod(BigInteger.valueOf(list.size() - i)).intValue();
            int row = list.get(i);
            list.set(i, list.get(at));
            list.set(at, row);
        }
        drawn = list.subList(0, n);
        return n;
    }

    long drawn(int k) {
        return in(k, 0, drawn.size() - 1) ? drawn.get(k) : NONE;
    }

    boolean unit(int u) {
        if (!in(u, 0, 255) || text.length() == 200) {
            return false;
        }
        text.append((char) u);
        return true;
    }

    long form(int i) {
        String form = text.toString();
        for (int kind = 0; kind < 4; kind++) {
            for (int year = 0; year < 10; year++) {
                String mark = "#" + kind + year;
                if (form.contains(mark)) {
                    // A number holds no '#', so filling one mark makes or breaks no other one.
                    form = form.replace(mark, then == null ? "-" : numberAsMarks(then.counted(kind, year).down()));
                }
            }
        }
        // The digits that were filled in come back from where no later mark could take them up.
        StringBuilder out = new StringBuilder();
        for (int at = 0; at < form.length(); at++) {
            char c = form.charAt(at);
            out.append(c >= 0x400 ? (char) (c - 0x400) : c);
        }
        return in(i, 0, out.length() - 1) ? out.charAt(i) : NONE;
    }

    private static String numberAsMarks(long number) {
        StringBuilder s = new StringBuilder();
        for (char c : Long.toString(number).toCharArray()) {
            s.append((char) (c + 0x400));
        }
        return s.toString();
    }
}
