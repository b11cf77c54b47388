import java.util.Random;

/** Runs of calls by fixed seeds, each answer beside the one of the model. */
public final class RandomRunsTest {
    private static final int RUNS = 1500;
    private static final int CALLS = 512;
    private static final long[] BELOWS = {1, 2, 5, 10};
    private static final int[] EDGES = {-1, 4, 5, 10, 20, 60, 200, 256, Integer.MIN_VALUE, Integer.MAX_VALUE};
    private static final long[] LONG_EDGES = {-1, 0, 1, 1000000000L, 1000000001L, 100000000000L,
        100000000001L, 1000000000000L, 1000000000001L, Long.MIN_VALUE, Long.MAX_VALUE};

    private final Due due = new Due();
    private Random random;
    private RateChains x;
    private Model m;

    public static void main(String[] args) {
        RandomRunsTest test = new RandomRunsTest();
        for (int run = 0; run < RUNS && !test.due.anyWrong(); run++) {
            test.run(run);
        }
        test.due.end();
    }

    private void run(int run) {
        due.about("run " + run);
        random = new Random(run);
        x = new RateChains();
        m = new Model();
        int plants = random.nextInt(6);
        for (int i = 0; i < plants; i++) {
            due.same("plant()", x.plant(), m.plant());
        }
        int building = 20 + random.nextInt(150);
        for (int call = plants; call < CALLS; call++) {
            if (call < building || random.nextInt(8) == 0) {
                build(random.nextInt(9));
            } else {
                ask(random.nextInt(13));
            }
        }
    }

    private int number(int count) {
        return random.nextInt(40) == 0 ? EDGES[random.nextInt(EDGES.length)] : random.nextInt(count);
    }

    private long grams(long most) {
        int way = random.nextInt(12);
        if (way == 0) {
            return LONG_EDGES[random.nextInt(LONG_EDGES.length)];
        }
        return way < 6 ? random.nextInt(50) : (random.nextLong() >>> 1) % (most + 1);
    }

    private void build(int which) {
        int plant = number(5);
        int kind = number(4);
        int year = number(10);
        long below = random.nextInt(30) == 0 ? random.nextInt(14) - 2 : BELOWS[random.nextInt(4)];
        long above = random.nextInt(30) == 0 ? random.nextInt(14) - 2 : random.nextInt((int) Math.max(1, below) + 1);
        long some;
        switch (which) {
            case 0:
            case 1:
                int to = number(5);
                due.same("share(" + plant + ", " + to + ", " + above + ", " + below + ")",
                        x.share(plant, to, above, below) ? 1 : 0, m.share(plant, to, above, below) ? 1 : 0);
                break;
            case 2:
                if (random.nextInt(3) == 0) {
                    due.same("point(" + plant + ", " + kind + ")",
                            x.point(plant, kind) ? 1 : 0, m.point(plant, kind) ? 1 : 0);
                } else if (random.nextInt(10) == 0) {
                    due.same("plant()", x.plant(), m.plant());
                }
                break;
            case 3:
                if (random.nextInt(3) == 0) {
                    due.same("average(" + plant + ", " + above + ", " + below + ")",
                            x.average(plant, above, below) ? 1 : 0, m.average(plant, above, below) ? 1 : 0);
                }
                break;
            case 4:
            case 5:
                int country = number(4);
                some = grams(1000000000L);
                due.same("feed(" + plant + ", " + kind + ", " + some + ", " + year + ", " + country + ")",
                        x.feed(plant, kind, some, year, country) ? 1 : 0,
                        m.feed(plant, kind, some, year, country) ? 1 : 0);
                break;
            case 6:
                some = grams(1000000000L);
                due.same("metals(" + year + ", " + some + ")", x.metals(year, some) ? 1 : 0, m.metals(year, some) ? 1 : 0);
                break;
            case 7:
                some = grams(100000000000L);
                due.same("placed(" + kind + ", " + year + ", " + some + ")",
                        x.placed(kind, year, some) ? 1 : 0, m.placed(kind, year, some) ? 1 : 0);
                break;
            default:
                int u = unit();
                due.same("unit(" + u + ")", x.unit(u) ? 1 : 0, m.unit(u) ? 1 : 0);
                break;
        }
    }

    private int unit() {
        int way = random.nextInt(20);
        return way == 0 ? number(256) : way < 8 ? '#' : '0' + random.nextInt(way < 16 ? 4 : 11);
    }

    private void ask(int which) {
        int kind = number(4);
        int year = number(10);
        int country = number(4);
        int part = number(2);
        int k = number(random.nextBoolean() ? 3 : 20);
        String cell = "(" + kind + ", " + year + ", " + part + ")";
        switch (which) {
            case 0:
                due.same("solve()", x.solve(), m.solve());
                break;
            case 1:
                due.same("counted" + cell, x.counted(kind, year, part), m.counted(kind, year, part));
                break;
            case 2:
                due.same("rate" + cell, x.rate(kind, year, part), m.rate(kind, year, part));
                break;
            case 3:
                due.same("twice(" + k + ")", x.twice(k), m.twice(k));
                break;
            case 4:
                due.same("told(" + k + ")", x.told(k), m.told(k));
                break;
            case 5:
                if (random.nextInt(10) == 0) {
                    due.same("once()", x.once() ? 1 : 0, m.once() ? 1 : 0);
                }
                break;
            case 6:
            case 7:
                long left = random.nextBoolean() ? m.left(country, kind, year) : 0;
                long grams = left > 0 ? left + random.nextInt(3) - 1 : grams(1000000000L);
                due.same("claim(" + country + ", " + kind + ", " + year + ", " + grams + ")",
                        x.claim(country, kind, year, grams), m.claim(country, kind, year, grams));
                break;
            case 8:
                due.same("left(" + country + ", " + kind + ", " + year + ")",
                        x.left(country, kind, year), m.left(country, kind, year));
                break;
            case 9:
                int yearB = number(10);
                due.same("open(" + year + ", " + yearB + ", " + k + ", " + part + ")",
                        x.open(year, yearB, k, part), m.open(year, yearB, k, part));
                break;
            case 10:
                long seed = random.nextLong();
                due.same("audit(" + seed + ", " + k + ")", x.audit(seed, k), m.audit(seed, k));
                break;
            case 11:
                due.same("drawn(" + k + ")", x.drawn(k), m.drawn(k));
                break;
            default:
                int i = number(random.nextBoolean() ? 30 : 250);
                due.same("form(" + i + ")", x.form(i), m.form(i));
                break;
        }
    }
}
