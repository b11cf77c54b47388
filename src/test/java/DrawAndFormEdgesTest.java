import java.math.BigInteger;

/** The boundary cases of promises 18 to 21, a test for each sentence that names one. */
public final class DrawAndFormEdgesTest {
    private static final BigInteger FACTOR = new BigInteger("6364136223846793005");
    private static final BigInteger ADDED = new BigInteger("1442695040888963407");
    private static final BigInteger WRAP = BigInteger.ONE.shiftLeft(64);

    private static final Due DUE = new Due();

    public static void main(String[] args) {
        auditOfNotSuch();
        auditOfNoFeeds();
        auditOfOne();
        auditOfAllOrSome();
        auditWraps();
        auditOfFeedsAsTheyAreNow();
        auditBeginsAnew();

        drawnOfNothing();
        drawnOfNoneSuch();
        drawnByTheLatest();
        drawnAfterNone();
        drawnStays();

        unitOfNotSuch();
        unitOfFirstAndLast();
        unitsFull();
        unitsRefused();

        formOfNoneSuch();
        formOfNothingSolved();
        formOfNumbers();
        formOfNothing();
        formDown();
        formOfDigits();
        formOfMarksInARow();
        formCutOff();
        formCutOffWhenFull();
        formOfAllOtherBytes();
        formAsItWasSolved();
        formShorterAndLonger();
        DUE.end();
    }

    private static RateChains withFeeds(int count) {
        RateChains x = Edges.withPlants(1);
        for (int row = 0; row < count; row++) {
            x.feed(0, 0, 1, 0, 0);
        }
        return x;
    }

    /** The list after the draws, in numbers without end that are cut to 64 bits. */
    private static int[] drawnOf(long seed, int n, int count) {
        int[] list = new int[count];
        for (int row = 0; row < count; row++) {
            list[row] = row;
        }
        BigInteger x = BigInteger.valueOf(seed).mod(WRAP);
        for (int i = 0; i < n; i++) {
            x = x.multiply(FACTOR).add(ADDED).mod(WRAP);
            int at = i + x.shiftRight(33).mod(BigInteger.valueOf(count - i)).intValue();
            int row = list[i];
            list[i] = list[at];
            list[at] = row;
        }
        return list;
    }

    private static void draws(RateChains x, long seed, int n, int count) {
        DUE.same("audit(" + seed + ", " + n + ") of " + count, x.audit(seed, n), n);
        int[] list = drawnOf(seed, n, count);
        for (int k = 0; k < n; k++) {
            DUE.same("drawn(" + k + ") by " + seed, x.drawn(k), list[k]);
        }
        DUE.same("drawn(" + n + ") by " + seed, x.drawn(n), -1);
    }

    private static void auditOfNotSuch() {
        DUE.about("18: n of 1 .. how many there are, NONE when it is not such");
        for (int count = 1; count <= 60; count += 7) {
            RateChains x = withFeeds(count);
            int[] none = {0, -1, count + 1, 61, Integer.MIN_VALUE, Integer.MAX_VALUE};
            for (int n : none) {
                DUE.same("audit of " + n + " of " + count, x.audit(5, n), -1);
            }
            DUE.same("nothing was drawn", x.drawn(0), -1);
            DUE.same("audit of 1 of " + count, x.audit(5, 1), 1);
            DUE.same("audit of all of " + count, x.audit(5, count), count);
        }
    }

    private static void auditOfNoFeeds() {
        DUE.about("18: without feeds there is no such n");
        RateChains x = Edges.withPlants(1);
        for (int n = -1; n <= 2; n++) {
            DUE.same("audit of " + n, x.audit(0, n), -1);
        }
        DUE.no("a feed that is refused", x.feed(0, 0, -1, 0, 0));
        DUE.same("audit of 1", x.audit(0, 1), -1);
        DUE.yes("a feed of 0 grams", x.feed(0, 0, 0, 0, 0));
        DUE.same("audit of 1 now", x.audit(0, 1), 1);
    }

    private static void auditOfOne() {
        DUE.about("18: one of one");
        RateChains x = withFeeds(1);
        long[] seeds = {0, 1, -1, Long.MIN_VALUE, Long.MAX_VALUE};
        for (long seed : seeds) {
            draws(x, seed, 1, 1);
        }
    }

    private static void auditOfAllOrSome() {
        DUE.about("18: the first n are drawn");
        for (int n = 1; n <= 7; n++) {
            draws(withFeeds(7), 20261116, n, 7);
        }
        draws(withFeeds(60), 1, 60, 60);
        draws(withFeeds(60), 2, 59, 60);
        draws(withFeeds(59), 3, 59, 59);
    }

    private static void auditWraps() {
        DUE.about("18: wrapping, and x >>> 33");
        long[] seeds = {0, 1, -1, 2, -2, Long.MIN_VALUE, Long.MAX_VALUE, Long.MIN_VALUE + 1,
            1442695040888963407L, -6364136223846793005L, 1L << 32, 1L << 33, -1L << 33};
        for (long seed : seeds) {
            draws(withFeeds(50), seed, 50, 50);
        }
        // By hand, from seed 0: the third x is 11166244414315200793, which is below 0 as a long.
        RateChains x = withFeeds(7);
        x.audit(0, 3);
        DUE.same("167951807 by 7 leaves 2", x.drawn(0), 2);
        DUE.same("218396424 by 6 leaves 0", x.drawn(1), 1);
        DUE.same("1299921937 by 5 leaves 2", x.drawn(2), 4);
    }

    private static void auditOfFeedsAsTheyAreNow() {
        DUE.about("18: how many there are, solved or not");
        RateChains x = withFeeds(3);
        x.solve();
        x.feed(0, 0, 1, 0, 0);
        draws(x, 77, 4, 4);
        DUE.same("audit of 5", x.audit(77, 5), -1);
        x.feed(0, 0, 1, 0, 0);
        draws(x, 77, 5, 5);
    }

    private static void auditBeginsAnew() {
        DUE.about("18: the rows 0, 1, .. stand in a list, at each audit");
        RateChains x = withFeeds(20);
        draws(x, 9, 20, 20);
        draws(x, 9, 20, 20);
        draws(x, 8, 1, 20);
        draws(x, 9, 10, 20);
    }

    private static void drawnOfNothing() {
        DUE.about("19: NONE when there is none such, before an audit");
        RateChains x = withFeeds(3);
        int[] ks = {0, 1, 2, 3, -1};
        for (int k : ks) {
            DUE.same("drawn(" + k + ")", x.drawn(k), -1);
        }
    }

    private static void drawnOfNoneSuch() {
        DUE.about("19: NONE when there is none such");
        RateChains x = withFeeds(60);
        x.audit(4, 30);
        DUE.yes("the first", x.drawn(0) >= 0);
        DUE.yes("the last", x.drawn(29) >= 0);
        int[] none = {-1, 30, 31, 59, 60, Integer.MIN_VALUE, Integer.MAX_VALUE};
        for (int k : none) {
            DUE.same("drawn(" + k + ")", x.drawn(k), -1);
        }
        x.audit(4, 60);
        DUE.yes("the last of all", x.drawn(59) >= 0);
        DUE.same("behind it", x.drawn(60), -1);
    }

    private static void drawnByTheLatest() {
        DUE.about("19: by the latest audit()");
        RateChains x = withFeeds(30);
        draws(x, 100, 30, 30);
        draws(x, 101, 2, 30);
        DUE.same("no third one", x.drawn(2), -1);
        draws(x, 102, 15, 30);
    }

    private static void drawnAfterNone() {
        DUE.about("19: the latest audit() that was not NONE");
        RateChains x = withFeeds(6);
        x.audit(55, 5);
        int[] list = drawnOf(55, 5, 6);
        int[] none = {0, -1, 7, Integer.MAX_VALUE, Integer.MIN_VALUE};
        for (int n : none) {
            DUE.same("audit of " + n, x.audit(56, n), -1);
            for (int k = 0; k < 5; k++) {
                DUE.same("drawn(" + k + ")", x.drawn(k), list[k]);
            }
            DUE.same("drawn(5)", x.drawn(5), -1);
        }
    }

    private static void drawnStays() {
        DUE.about("19: what was drawn stays when other things change");
        RateChains x = withFeeds(6);
        x.audit(55, 6);
        int[] list = drawnOf(55, 6, 6);
        x.feed(0, 1, 2, 3, 1);
        x.plant();
        x.solve();
        x.share(1, 1, 1, 1);
        x.solve();
        for (int k = 0; k < 6; k++) {
            DUE.same("drawn(" + k + ")", x.drawn(k), list[k]);
        }
        DUE.same("drawn(6)", x.drawn(6), -1);
    }

    private static void unitOfNotSuch() {
        DUE.about("20: false when it is not such (0 .. 255)");
        RateChains x = new RateChains();
        int[] none = {-1, 256, 257, 256 + '#', -128, Integer.MIN_VALUE, Integer.MAX_VALUE};
        for (int u : none) {
            DUE.no("unit(" + u + ")", x.unit(u));
            DUE.same("no text", x.form(0), -1);
        }
    }

    private static void unitOfFirstAndLast() {
        DUE.about("20: one more byte of the text (0 .. 255)");
        RateChains x = new RateChains();
        DUE.yes("0", x.unit(0));
        DUE.same("0", x.form(0), 0);
        DUE.same("one byte", x.form(1), -1);
        DUE.yes("255", x.unit(255));
        DUE.same("255", x.form(1), 255);
        DUE.same("two bytes", x.form(2), -1);
        DUE.yes("128", x.unit(128));
        DUE.same("128", x.form(2), 128);
    }

    private static void unitsFull() {
        DUE.about("20: or there are 200");
        RateChains x = new RateChains();
        for (int at = 0; at < 200; at++) {
            DUE.yes("unit " + at, x.unit(at));
        }
        DUE.no("one more", x.unit('a'));
        DUE.no("one more that is not such", x.unit(256));
        DUE.same("form(0)", x.form(0), 0);
        DUE.same("form(199)", x.form(199), 199);
        DUE.same("form(200)", x.form(200), -1);
        x.solve();
        DUE.no("one more, solved", x.unit('a'));
        DUE.same("form(200), solved", x.form(200), -1);
    }

    private static void unitsRefused() {
        DUE.about("20: bytes that are refused take no room");
        RateChains x = new RateChains();
        for (int at = 0; at < 200; at++) {
            DUE.no("refused", x.unit(at % 2 == 0 ? -1 : 256));
            DUE.yes("unit " + at, x.unit('a' + at % 26));
        }
        DUE.no("one more", x.unit('a'));
        DUE.same("form(0)", x.form(0), 'a');
        DUE.same("form(199)", x.form(199), 'a' + 199 % 26);
    }

    private static void formOfNoneSuch() {
        DUE.about("21: NONE when there is none such");
        RateChains x = new RateChains();
        int[] none = {-1, 3, 4, 199, 200, Integer.MIN_VALUE, Integer.MAX_VALUE};
        DUE.same("no text", x.form(0), -1);
        DUE.writes(x, "abc");
        for (int i : none) {
            DUE.same("form(" + i + ")", x.form(i), -1);
        }
        DUE.reads(x, "abc");
    }

    private static void formOfNothingSolved() {
        DUE.about("the terms: or - as long as nothing was solved");
        RateChains x = Edges.withPointOf(0);
        x.feed(0, 0, 123, 0, 0);
        DUE.writes(x, "<#00>");
        DUE.reads(x, "<->");
        x.share(0, 0, 1, 1);
        DUE.same("it does not stand for kind 1", x.solve(), 1);
        DUE.reads(x, "<->");
        x.share(0, 0, 0, 1);
        DUE.reads(x, "<->");
        x.solve();
        DUE.reads(x, "<123>");
        x.share(0, 0, 1, 1);
        x.solve();
        DUE.reads(x, "<123>");
    }

    private static void formOfNumbers() {
        DUE.about("the terms: the whole grams that are counted, in decimals");
        RateChains x = Edges.withPlants(1);
        x.point(0, 2);
        long[] grams = {0, 1, 9, 10, 11, 99, 100, 101, 999999999, 1000000000};
        StringBuilder form = new StringBuilder();
        for (int year = 0; year < 10; year++) {
            x.feed(0, 2, grams[year], year, year % 4);
            DUE.writes(x, "#2" + year + ",");
            form.append(grams[year]).append(',');
        }
        x.solve();
        DUE.reads(x, form.toString());
    }

    private static void formOfNothing() {
        DUE.about("the terms: nothing counted is 0");
        RateChains x = new RateChains();
        DUE.writes(x, "#00#39");
        x.solve();
        DUE.reads(x, "00");
    }

    private static void formDown() {
        DUE.about("the terms: the whole grams, down, of all countries, and metals");
        RateChains x = Edges.withPlants(1);
        x.average(0, 1, 10);
        x.feed(0, 0, 1, 0, 0);
        x.feed(0, 0, 1, 1, 1);
        x.feed(0, 0, 1, 1, 2);
        x.feed(0, 3, 1, 2, 3);
        x.metals(2, 9);
        x.feed(0, 3, 10, 3, 3);
        x.metals(3, 1);
        DUE.writes(x, "#00 #01 #32 #33");
        x.solve();
        DUE.reads(x, "0 1 9 10");
    }

    private static void formOfDigits() {
        DUE.about("the terms: # with two digits behind it, of a kind and a year");
        RateChains x = new RateChains();
        x.solve();
        DUE.writes(x, "#00#30#09#39");
        DUE.reads(x, "0000");
        String[] others = {"#40", "#90", "#/0", "#:0", "#0/", "#0:", "#-1", "# 0", "#0 ", "#a0", "#0a", "$00", "\"00"};
        for (String other : others) {
            RateChains y = new RateChains();
            DUE.writes(y, other);
            DUE.reads(y, other);
            y.solve();
            DUE.reads(y, other);
        }
    }

    private static void formOfMarksInARow() {
        DUE.about("the terms: # beside #, and digits beside digits");
        String[][] rows = {{"##00", "#0"}, {"#0#00", "#00"}, {"#00#", "0#"}, {"#0000", "000"}, {"###", "###"},
            {"#00#11#22", "000"}, {"0#000#0", "000#0"}, {"#4#00", "#40"}, {"#40#00", "#400"}, {"#00:", "0:"}};
        for (String[] row : rows) {
            RateChains x = new RateChains();
            DUE.writes(x, row[0]);
            x.solve();
            DUE.reads(x, row[1]);
        }
    }

    private static void formCutOff() {
        DUE.about("the terms: a # without two digits behind it stays");
        RateChains x = new RateChains();
        x.solve();
        DUE.writes(x, "#");
        DUE.reads(x, "#");
        DUE.writes(x, "3");
        DUE.reads(x, "#3");
        DUE.writes(x, "9");
        DUE.reads(x, "0");
    }

    private static void formCutOffWhenFull() {
        DUE.about("the terms: the last bytes of a full text");
        String[][] rows = {{"#39", "0"}, {".#3", ".#3"}, {"..#", "..#"}, {".##", ".##"}, {"#3.", "#3."}, {"#4#", "#4#"}};
        for (String[] row : rows) {
            RateChains x = new RateChains();
            for (int at = 0; at < 197; at++) {
                x.unit('.');
            }
            DUE.writes(x, row[0]);
            DUE.no("no room for more", x.unit('0'));
            x.solve();
            for (int at = 0; at < row[1].length(); at++) {
                DUE.same(row[0] + ", form(197 + " + at + ")", x.form(197 + at), row[1].charAt(at));
            }
            DUE.same(row[0] + ", behind it", x.form(197 + row[1].length()), -1);
        }
    }

    private static void formOfAllOtherBytes() {
        DUE.about("the terms: all other bytes stay");
        for (int from = 0; from < 256; from += 128) {
            RateChains x = new RateChains();
            for (int u = from; u < from + 128; u++) {
                DUE.yes("unit(" + u + ")", x.unit(u));
            }
            x.solve();
            for (int u = from; u < from + 128; u++) {
                DUE.same("byte " + u, x.form(u - from), u);
            }
            DUE.same("behind them", x.form(128), -1);
        }
    }

    private static void formAsItWasSolved() {
        DUE.about("the terms: the form's numbers are as it was solved, its text is as it is now");
        RateChains x = Edges.withPointOf(0);
        x.feed(0, 0, 5, 0, 0);
        DUE.writes(x, "#00");
        x.solve();
        x.feed(0, 0, 6, 0, 0);
        x.claim(0, 0, 0, 5);
        DUE.reads(x, "5");
        DUE.writes(x, "+#01");
        DUE.reads(x, "5+0");
        x.solve();
        DUE.reads(x, "11+0");
    }

    private static void formShorterAndLonger() {
        DUE.about("21: a form may be shorter or longer than its text");
        RateChains x = Edges.withPointOf(1);
        for (int row = 0; row < 60; row++) {
            x.feed(0, 1, 1000000000L, 7, 0);
        }
        for (int mark = 0; mark < 66; mark++) {
            DUE.writes(x, "#17");
        }
        DUE.same("form(65)", x.form(65), '-');
        DUE.same("form(66)", x.form(66), -1);
        x.solve();
        DUE.same("form(0)", x.form(0), '6');
        DUE.same("form(10)", x.form(10), '0');
        DUE.same("form(11)", x.form(11), '6');
        DUE.same("form(200)", x.form(200), '0');
        DUE.same("form(715)", x.form(715), '6');
        DUE.same("form(725)", x.form(725), '0');
        DUE.same("form(726)", x.form(726), -1);
    }
}
