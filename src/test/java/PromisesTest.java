/** Each promise by itself, in ordinary use; its boundary cases stand in the tests of edges. */
public final class PromisesTest {
    private static final Due DUE = new Due();

    public static void main(String[] args) {
        newObject();
        plant();
        share();
        point();
        average();
        feed();
        metals();
        placed();
        solveStands();
        solveRings();
        solveKeepsWhatWasSolved();
        counted();
        countedByAverages();
        countedAsItWasSolved();
        countedLargest();
        rate();
        twice();
        told();
        toldAsItWasSolved();
        once();
        claim();
        left();
        open();
        audit();
        drawn();
        unit();
        form();
        formLargest();
        DUE.end();
    }

    private static void newObject() {
        DUE.about("1 a new object");
        DUE.same("NONE", RateChains.NONE, -1);
        RateChains x = new RateChains();
        DUE.same("counted", x.counted(0, 0, 0), -1);
        DUE.same("rate", x.rate(0, 0, 0), -1);
        DUE.same("left", x.left(0, 0, 0), -1);
        DUE.same("claim", x.claim(0, 0, 0, 1), -1);
        DUE.same("open", x.open(0, 1, 0, 1), 0);
        DUE.same("drawn", x.drawn(0), -1);
        DUE.same("form", x.form(0), -1);
        DUE.same("twice", x.twice(0), -1);
        DUE.same("told", x.told(0), -1);
        DUE.same("audit", x.audit(1, 1), -1);
        DUE.yes("once", x.once());
        DUE.no("share", x.share(0, 0, 1, 2));
        DUE.no("point", x.point(0, 0));
        DUE.no("average", x.average(0, 1, 2));
        DUE.no("feed", x.feed(0, 0, 1, 0, 0));
        RateChains other = Edges.withPlants(5);
        DUE.same("plant() of one object after another's five", x.plant(), 0);
        DUE.same("plant() of the other one", other.plant(), -1);
    }

    private static void plant() {
        DUE.about("2 plant");
        RateChains x = new RateChains();
        for (int i = 0; i < 5; i++) {
            DUE.same("plant()", x.plant(), i);
        }
        DUE.same("plant() of five", x.plant(), -1);
        DUE.same("plant() of five again", x.plant(), -1);
        DUE.yes("point of the last one", x.point(4, 0));
        DUE.no("point of a sixth one", x.point(5, 0));
    }

    private static void share() {
        DUE.about("3 share");
        for (long below = -12; below <= 21; below++) {
            RateChains one = Edges.withPlants(2);
            for (long above = -2; above <= 21; above++) {
                DUE.same("share(0, 1, " + above + ", " + below + ")",
                        one.share(0, 1, above, below) ? 1 : 0, Edges.isFraction(above, below) ? 1 : 0);
            }
        }
        RateChains x = Edges.withPlants(2);
        for (long below : Edges.BELOWS) {
            DUE.no("share of the least long", x.share(0, 1, Long.MIN_VALUE, below));
            DUE.no("share of the greatest long", x.share(0, 1, Long.MAX_VALUE, below));
        }
        DUE.no("share over the least long", x.share(0, 1, 0, Long.MIN_VALUE));
        DUE.no("share over 2^32 + 1", x.share(0, 1, 0, (1L << 32) + 1));
        DUE.no("share of 2^32 + 1", x.share(0, 1, (1L << 32) + 1, 1));

        x = Edges.withPlants(3);
        DUE.yes("1/2 to 0", x.share(0, 0, 1, 2));
        DUE.yes("3/10 to 1", x.share(0, 1, 3, 10));
        DUE.no("3/10 to 2 too", x.share(0, 2, 3, 10));
        DUE.yes("1/5 to 2, all 1 together", x.share(0, 2, 1, 5));
        DUE.no("1/10 more to 2", x.share(0, 2, 3, 10));
        DUE.yes("the same again", x.share(0, 2, 1, 5));
        DUE.yes("0 to 0", x.share(0, 0, 0, 1));
        DUE.yes("7/10 to 2 now", x.share(0, 2, 7, 10));
        DUE.no("1/10 to 0 now", x.share(0, 0, 1, 10));
        DUE.yes("another plant's shares are its own", x.share(1, 0, 1, 1));
    }

    private static void point() {
        DUE.about("4 point");
        RateChains x = Edges.withPlants(5);
        for (int plant = 0; plant < 5; plant++) {
            for (int kind = 0; kind < 4; kind++) {
                DUE.yes("point(" + plant + ", " + kind + ")", x.point(plant, kind));
                DUE.no("again", x.point(plant, kind));
            }
        }
        x = Edges.withPlants(5);
        DUE.yes("all of it counts there, whatever the shares and the average",
                x.point(0, 2) && x.share(0, 1, 1, 1) && x.average(0, 1, 2)
                && x.feed(0, 2, 7, 4, 1) && x.feed(0, 1, 7, 4, 1) && x.solve() == 0);
        DUE.counted(x, 2, 4, 7, 1);
        DUE.counted(x, 1, 4, 0, 1);
    }

    private static void average() {
        DUE.about("5 average");
        for (long below = -12; below <= 21; below++) {
            RateChains one = Edges.withPlants(1);
            for (long above = -2; above <= 21; above++) {
                DUE.same("average(0, " + above + ", " + below + ")",
                        one.average(0, above, below) ? 1 : 0, Edges.isFraction(above, below) ? 1 : 0);
            }
        }
        RateChains x = Edges.withPlants(1);
        DUE.no("average of one that is not there yet", x.average(1, 1, 2));
        x.feed(0, 0, 10, 0, 0);
        long[][] rows = {{3, 10, 7, 1}, {1, 1, 0, 1}, {0, 5, 10, 1}, {1, 2, 5, 1}, {2, 5, 6, 1}};
        for (long[] row : rows) {
            DUE.yes("average", x.average(0, row[0], row[1]));
            x.solve();
            DUE.counted(x, 0, 0, row[2], row[3]);
        }
        DUE.no("one that is no fraction", x.average(0, 1, 3));
        x.solve();
        DUE.counted(x, 0, 0, 6, 1);
        x.feed(0, 1, 3, 0, 0);
        x.solve();
        DUE.counted(x, 1, 0, 9, 5);
    }

    private static void feed() {
        DUE.about("6 feed");
        RateChains x = Edges.withPlants(2);
        DUE.no("a plant that is not there yet", x.feed(2, 0, 1, 0, 0));
        DUE.same("no row was made by any of them", x.audit(1, 1), -1);
        DUE.yes("0 grams", x.feed(0, 0, 0, 0, 0));
        DUE.yes("most grams", x.feed(1, 3, 1000000000L, 9, 3));
        DUE.same("two rows", x.audit(1, 2), 2);
        DUE.same("not three", x.audit(1, 3), -1);
        for (int i = 2; i < 60; i++) {
            DUE.yes("row " + i, x.feed(0, 0, 1, 0, 0));
        }
        DUE.no("row 60", x.feed(0, 0, 1, 0, 0));
        DUE.same("sixty rows", x.audit(1, 60), 60);
        DUE.same("not one more", x.audit(1, 61), -1);
        x.point(0, 0);
        x.solve();
        DUE.counted(x, 0, 0, 58, 1);
    }

    private static void metals() {
        DUE.about("7 metals");
        RateChains x = Edges.withPlants(0);
        x.solve();
        for (int year = 0; year < 10; year++) {
            DUE.counted(x, 3, year, 0, 1);
            DUE.yes("metals", x.metals(year, 100 + year));
        }
        DUE.counted(x, 3, 0, 0, 1);
        x.solve();
        for (int year = 0; year < 10; year++) {
            DUE.counted(x, 3, year, 100 + year, 1);
            for (int kind = 0; kind < 3; kind++) {
                DUE.counted(x, kind, year, 0, 1);
            }
            DUE.same("of country 0", x.left(0, 3, year), 100 + year);
            DUE.same("of country 1", x.left(1, 3, year), 0);
        }
        DUE.yes("most", x.metals(4, 1000000000L));
        DUE.yes("none", x.metals(5, 0));
        DUE.no("refused", x.metals(6, -1));
        x.solve();
        DUE.counted(x, 3, 4, 1000000000L, 1);
        DUE.counted(x, 3, 5, 0, 1);
        DUE.counted(x, 3, 6, 106, 1);
    }

    private static void placed() {
        DUE.about("8 placed");
        RateChains x = Edges.withPlants(1);
        x.point(0, 1);
        x.feed(0, 1, 1, 2, 0);
        x.solve();
        DUE.rate(x, 1, 2, 0, 0);
        DUE.yes("most", x.placed(1, 2, 100000000000L));
        DUE.rate(x, 1, 2, 1, 100000000000L);
        DUE.yes("another kind and year", x.placed(2, 1, 5));
        DUE.rate(x, 1, 2, 1, 100000000000L);
        DUE.no("refused", x.placed(1, 2, -1));
        DUE.rate(x, 1, 2, 1, 100000000000L);
        DUE.yes("4", x.placed(1, 2, 4));
        DUE.rate(x, 1, 2, 1, 4);
        DUE.yes("none again", x.placed(1, 2, 0));
        DUE.rate(x, 1, 2, 0, 0);
    }

    private static void solveStands() {
        DUE.about("9 solve, stands");
        DUE.same("no plants", new RateChains().solve(), 0);
        DUE.same("bare plants", Edges.withPlants(5).solve(), 0);
        RateChains x = Edges.withPlants(3);
        x.share(0, 1, 1, 1);
        x.share(1, 2, 1, 1);
        x.share(2, 0, 9, 10);
        DUE.same("a ring of which a tenth is lost", x.solve(), 0);
        x.share(2, 0, 1, 1);
        DUE.same("a ring of which nothing is", x.solve(), 1);
        for (int kind = 0; kind < 4; kind++) {
            DUE.same("with a point of " + kind + " kinds", x.solve(), 1);
            x.point(1, kind);
        }
        DUE.same("with a point of all kinds", x.solve(), 0);
        x = Edges.withPlants(2);
        x.average(0, 0, 1);
        x.share(0, 0, 1, 1);
        DUE.same("an average does not open a ring", x.solve(), 1);
    }

    private static void solveRings() {
        DUE.about("9 solve, rings");
        for (int plant = 0; plant < 5; plant++) {
            RateChains x = Edges.withPlants(5);
            x.share(plant, plant, 1, 1);
            DUE.same("round itself", x.solve(), 1 + plant);
        }
        RateChains x = Edges.withPlants(5);
        x.share(4, 3, 1, 1);
        x.share(3, 4, 1, 1);
        DUE.same("3 and 4", x.solve(), 4);
        x.share(0, 4, 9, 10);
        DUE.same("of 0 something is lost", x.solve(), 4);
        x.share(0, 4, 1, 1);
        DUE.same("of 0 all goes into the ring", x.solve(), 1);
        x.share(0, 4, 1, 2);
        x.share(0, 1, 1, 2);
        DUE.same("of 0 half goes on to a bare one", x.solve(), 4);
        x.share(1, 2, 1, 1);
        x.share(2, 1, 1, 1);
        DUE.same("of 0 all goes into rings", x.solve(), 1);

        x = Edges.withPlants(5);
        x.share(1, 1, 1, 1);
        x.share(3, 3, 1, 1);
        x.point(1, 0);
        x.point(1, 1);
        x.point(1, 3);
        DUE.same("the least one goes round for kind 2 alone", x.solve(), 2);
        x.point(1, 2);
        DUE.same("the other one", x.solve(), 4);

        x = Edges.withPlants(5);
        x.share(0, 1, 1, 1);
        x.share(1, 2, 1, 1);
        x.share(2, 3, 1, 1);
        x.share(3, 4, 1, 1);
        x.share(4, 0, 1, 2);
        x.share(4, 4, 1, 2);
        DUE.same("round all", x.solve(), 1);
        x.share(4, 4, 2, 5);
        DUE.same("the end is four plants away", x.solve(), 0);
    }

    private static void solveKeepsWhatWasSolved() {
        DUE.about("9 solve, what was solved stays");
        RateChains x = Edges.withPlants(2);
        x.point(0, 0);
        x.feed(0, 0, 50, 3, 0);
        x.share(1, 1, 1, 1);
        DUE.same("a ring", x.solve(), 2);
        DUE.same("nothing was solved", x.counted(0, 3, 0), -1);
        x.share(1, 1, 0, 1);
        DUE.same("none", x.solve(), 0);
        DUE.same("claim", x.claim(0, 0, 3, 20), 30);
        x.share(1, 1, 1, 1);
        x.feed(0, 0, 50, 3, 0);
        DUE.same("a ring again", x.solve(), 2);
        DUE.counted(x, 0, 3, 50, 1);
        DUE.same("claims stay, too", x.left(0, 0, 3), 30);
        x.share(1, 1, 0, 1);
        DUE.same("none again", x.solve(), 0);
        DUE.counted(x, 0, 3, 100, 1);
        DUE.same("claims are forgotten", x.left(0, 0, 3), 100);
    }

    private static void counted() {
        DUE.about("10 counted");
        RateChains x = Edges.withPlants(3);
        x.share(0, 1, 1, 2);
        x.share(0, 0, 1, 5);
        x.share(1, 0, 1, 10);
        x.share(1, 2, 3, 5);
        x.point(2, 0);
        // w0 = w1 / 2 + w0 / 5, w1 = w0 / 10 + 3 / 5: w0 = 2/5, w1 = 16/25.
        x.feed(0, 0, 1, 0, 0);
        x.feed(1, 0, 1, 1, 1);
        x.feed(2, 0, 1, 2, 2);
        x.feed(0, 0, 1, 3, 0);
        x.feed(1, 0, 1, 3, 1);
        x.feed(2, 0, 1, 3, 2);
        x.feed(2, 0, 1, 3, 3);
        x.feed(0, 1, 9, 3, 3);
        x.feed(2, 1, 9, 3, 3);
        DUE.same("counted before it was solved", x.counted(0, 0, 0), -1);
        x.solve();
        DUE.counted(x, 0, 0, 2, 5);
        DUE.counted(x, 0, 1, 16, 25);
        DUE.counted(x, 0, 2, 1, 1);
        DUE.counted(x, 0, 3, 76, 25);
        DUE.counted(x, 0, 4, 0, 1);
        DUE.counted(x, 1, 3, 0, 1);
    }

    private static void countedByAverages() {
        DUE.about("10 counted, by averages");
        RateChains x = Edges.withPlants(3);
        x.average(0, 1, 5);
        x.average(1, 1, 2);
        x.share(0, 1, 1, 2);
        x.feed(0, 0, 100, 0, 0);
        x.feed(2, 0, 100, 1, 0);
        x.solve();
        DUE.counted(x, 0, 0, 25, 1);
        DUE.counted(x, 0, 1, 0, 1);
        x.share(0, 1, 0, 10);
        x.solve();
        DUE.counted(x, 0, 0, 80, 1);
        x.share(0, 2, 1, 10);
        x.solve();
        DUE.counted(x, 0, 0, 0, 1);
    }

    private static void countedAsItWasSolved() {
        DUE.about("10 counted, as it was solved");
        RateChains x = Edges.withPlants(2);
        x.average(0, 1, 2);
        x.feed(0, 3, 10, 0, 0);
        x.metals(0, 3);
        x.solve();
        x.average(0, 1, 5);
        x.feed(0, 3, 10, 0, 0);
        x.metals(0, 4);
        x.share(0, 1, 1, 1);
        x.point(0, 3);
        DUE.counted(x, 3, 0, 8, 1);
        x.solve();
        DUE.counted(x, 3, 0, 24, 1);
    }

    /** Five plants and sixty feeds of the most grams: the greatest numbers that can come up. */
    private static void countedLargest() {
        DUE.about("10 and 11, the largest");
        RateChains x = Edges.withPlants(5);
        x.share(0, 1, 7, 10);
        x.share(1, 2, 7, 10);
        x.share(2, 3, 7, 10);
        x.share(3, 4, 7, 10);
        x.average(4, 3, 10);
        for (int i = 0; i < 60; i++) {
            x.feed(0, 3, 1000000000L, 0, 0);
        }
        x.metals(0, 999999999L);
        x.placed(3, 0, 99999999999L);
        x.solve();
        // 6 * 10^10 * 16807 / 10^5 + 999999999
        DUE.counted(x, 3, 0, 10084200000L + 999999999L, 1);
        DUE.rate(x, 3, 0, 11084199999L / 3, 99999999999L / 3);
        x = Edges.withPlants(5);
        x.share(0, 1, 7, 10);
        x.share(1, 2, 7, 10);
        x.share(2, 3, 7, 10);
        x.share(3, 4, 7, 10);
        x.average(4, 3, 10);
        x.feed(0, 3, 999999999L, 0, 0);
        x.placed(3, 0, 100000000000L);
        x.solve();
        DUE.counted(x, 3, 0, 999999999L * 16807, 100000);
        DUE.rate(x, 3, 0, 999999999L * 16807, 10000000000000000L);
    }

    private static void rate() {
        DUE.about("11 rate");
        RateChains x = Edges.withPlants(1);
        x.average(0, 1, 2);
        x.feed(0, 3, 30, 1, 0);
        x.feed(0, 3, 1000, 1, 1);
        x.metals(1, 5);
        x.placed(3, 1, 8);
        x.placed(0, 1, 8);
        DUE.same("before it was solved", x.rate(3, 1, 0), -1);
        DUE.same("before it was solved, nothing placed", x.rate(3, 2, 0), -1);
        x.solve();
        DUE.rate(x, 3, 1, 5, 2);
        DUE.rate(x, 0, 1, 0, 1);
        DUE.rate(x, 3, 2, 0, 0);
        x.placed(3, 1, 100);
        DUE.rate(x, 3, 1, 1, 5);
    }

    private static void twice() {
        DUE.about("12 twice");
        RateChains x = Edges.withPlants(5);
        x.point(3, 2);
        x.point(1, 3);
        x.point(1, 0);
        x.point(0, 1);
        DUE.same("no average", x.twice(0), -1);
        x.average(3, 0, 1);
        x.average(2, 1, 2);
        DUE.same("an average of 0 is one", x.twice(0), 14);
        x.average(1, 1, 2);
        DUE.same("0", x.twice(0), 4);
        DUE.same("1", x.twice(1), 7);
        DUE.same("2", x.twice(2), 14);
        DUE.same("3", x.twice(3), -1);
        DUE.same("-1", x.twice(-1), -1);
        DUE.same("least", x.twice(Integer.MIN_VALUE), -1);
        DUE.same("most", x.twice(Integer.MAX_VALUE), -1);
        for (int plant = 0; plant < 5; plant++) {
            x.average(plant, 1, 1);
            for (int kind = 0; kind < 4; kind++) {
                x.point(plant, kind);
            }
        }
        for (int k = 0; k < 20; k++) {
            DUE.same("all, " + k, x.twice(k), k);
        }
        DUE.same("all, 20", x.twice(20), -1);
    }

    private static void told() {
        DUE.about("13 told");
        RateChains x = Edges.withPlants(5);
        x.share(0, 1, 1, 10);
        x.share(1, 4, 1, 10);
        x.share(3, 2, 1, 2);
        x.feed(0, 0, 0, 0, 0);
        x.solve();
        DUE.same("0 grams alone", x.told(0), -1);
        x.feed(0, 0, 1, 0, 0);
        x.solve();
        DUE.same("what goes on comes in", x.told(0), 4);
        DUE.same("one alone", x.told(1), -1);
        x.feed(2, 3, 1, 9, 3);
        x.solve();
        DUE.same("the less number first", x.told(0), 2);
        DUE.same("then the other one", x.told(1), 4);
        DUE.same("no third one", x.told(2), -1);
        x.point(1, 0);
        x.solve();
        DUE.same("at a point nothing goes on", x.told(0), 2);
        DUE.same("so 4 is none", x.told(1), -1);
        x.point(2, 0);
        x.solve();
        DUE.same("a point of another kind", x.told(0), 2);
        x.average(2, 1, 1);
        x.solve();
        DUE.same("an average is enough", x.told(0), -1);
        DUE.same("-1", x.told(-1), -1);
        DUE.same("least", x.told(Integer.MIN_VALUE), -1);
        DUE.same("most", x.told(Integer.MAX_VALUE), -1);
        x = Edges.withPlants(5);
        for (int plant = 0; plant < 4; plant++) {
            x.share(4 - plant, 3 - plant, 1, 10);
        }
        x.feed(4, 2, 1, 0, 0);
        x.solve();
        DUE.same("four plants away", x.told(0), 0);
    }

    private static void toldAsItWasSolved() {
        DUE.about("13 told, as it was solved");
        RateChains x = Edges.withPlants(2);
        x.feed(0, 0, 1, 0, 0);
        DUE.same("nothing was solved", x.told(0), -1);
        x.solve();
        x.average(0, 1, 2);
        x.feed(1, 0, 1, 0, 0);
        DUE.same("as it was", x.told(0), 0);
        DUE.same("as it was, 1", x.told(1), -1);
        x.share(0, 0, 1, 1);
        x.solve();
        DUE.same("as it was, still", x.told(0), 0);
        x.share(0, 0, 0, 1);
        x.solve();
        DUE.same("as it is", x.told(0), 1);
    }

    /** By the terms no worth is above 1, so there is no run of calls that answers false. */
    private static void once() {
        DUE.about("14 once");
        RateChains x = Edges.withPlants(5);
        DUE.yes("nothing was solved", x.once());
        for (int kind = 0; kind < 4; kind++) {
            x.point(4, kind);
        }
        x.share(0, 4, 1, 1);
        for (int i = 0; i < 60; i++) {
            x.feed(i % 2 == 0 ? 0 : 4, i % 4, 1000000000L, i % 10, i % 3);
        }
        x.metals(0, 1000000000L);
        x.metals(9, 1);
        DUE.same("solve", x.solve(), 0);
        DUE.yes("all counts", x.once());
        x.claim(0, 3, 0, 7);
        x.metals(0, 0);
        x.placed(3, 0, 1);
        DUE.yes("as it was solved", x.once());
        x.share(1, 1, 1, 1);
        x.solve();
        DUE.yes("what was solved stays", x.once());
    }

    private static void claim() {
        DUE.about("15 claim");
        RateChains x = Edges.withPlants(1);
        x.point(0, 1);
        for (int year = 0; year < 10; year++) {
            x.feed(0, 1, 10 + year, year, 2);
        }
        DUE.same("nothing was solved", x.claim(2, 1, 3, 1), -1);
        x.solve();
        DUE.same("more than there is", x.claim(2, 1, 3, 37), -1);
        DUE.same("nothing was taken", x.left(2, 1, 1) + x.left(2, 1, 2) + x.left(2, 1, 3), 36);
        DUE.same("the oldest first", x.claim(2, 1, 3, 5), 31);
        DUE.same("year 1", x.left(2, 1, 1), 6);
        DUE.same("year 2", x.left(2, 1, 2), 12);
        DUE.same("over two years", x.claim(2, 1, 3, 8), 23);
        DUE.same("year 1 is taken", x.left(2, 1, 1), 0);
        DUE.same("year 2 in part", x.left(2, 1, 2), 10);
        DUE.same("all that is left", x.claim(2, 1, 3, 23), 0);
        DUE.same("year 3 is taken", x.left(2, 1, 3), 0);
        DUE.same("nothing is left", x.claim(2, 1, 3, 1), -1);
        DUE.same("year 0 was not touched", x.left(2, 1, 0), 10);
        DUE.same("year 4 was not touched", x.left(2, 1, 4), 14);
        DUE.same("year 4 of years 2 to 4", x.claim(2, 1, 4, 4), 10);
        DUE.same("year 0 alone", x.claim(2, 1, 0, 9), 1);
        DUE.same("years 0 and 1", x.claim(2, 1, 1, 1), 0);
        DUE.same("year 9", x.claim(2, 1, 9, 18), 36);
        DUE.same("year 7 went", x.left(2, 1, 7), 0);
        DUE.same("a part of year 8", x.left(2, 1, 8), 17);
        DUE.same("another country", x.claim(1, 1, 9, 1), -1);
        DUE.same("another kind", x.claim(2, 0, 9, 1), -1);
        DUE.counted(x, 1, 9, 19, 1);
    }

    private static void left() {
        DUE.about("16 left");
        RateChains x = Edges.withPlants(1);
        x.average(0, 1, 10);
        x.feed(0, 3, 5, 0, 0);
        x.feed(0, 3, 4, 0, 0);
        x.feed(0, 3, 5, 0, 1);
        x.feed(0, 3, 1, 0, 2);
        x.metals(0, 2);
        DUE.same("nothing was solved", x.left(0, 3, 0), -1);
        x.solve();
        DUE.same("8.1 and 2", x.left(0, 3, 0), 10);
        DUE.same("4.5", x.left(1, 3, 0), 4);
        DUE.same("0.9", x.left(2, 3, 0), 0);
        DUE.same("none", x.left(3, 3, 0), 0);
        x.claim(0, 3, 1, 4);
        DUE.same("less the claim", x.left(0, 3, 0), 6);
        x.feed(0, 3, 100, 0, 0);
        DUE.same("as it was solved", x.left(0, 3, 0), 6);
    }

    private static void open() {
        DUE.about("17 open");
        RateChains x = Edges.withPlants(2);
        x.share(0, 1, 1, 2);
        x.average(1, 1, 10);
        x.feed(0, 3, 7, 2, 0);
        x.feed(0, 3, 4, 2, 3);
        x.feed(0, 3, 5, 4, 1);
        x.feed(1, 3, 1, 4, 1);
        x.feed(0, 2, 100, 4, 1);
        x.metals(4, 1000);
        DUE.open(x, 2, 4, 3, 0, 0);
        x.solve();
        DUE.open(x, 2, 4, 3, -27, 10);
        DUE.open(x, 4, 2, 3, 27, 10);
        DUE.open(x, 2, 4, 7, 9, 10);
        DUE.open(x, 4, 4, 7, 0, 1);
        DUE.open(x, 2, 4, 2, 45, 1);
        DUE.open(x, 0, 9, 0, 0, 1);
        DUE.open(x, 2, 4, 8, 0, 0);
        x.plant();
        DUE.open(x, 2, 4, 8, 0, 1);
        DUE.open(x, 2, 4, 11, 0, 1);
        DUE.open(x, 2, 4, 12, 0, 0);
        x.feed(0, 3, 1000, 2, 0);
        x.feed(2, 3, 1000, 2, 0);
        x.average(1, 1, 1);
        DUE.open(x, 2, 4, 3, -27, 10);
        DUE.open(x, 2, 4, 11, 0, 1);
        x.average(1, 1, 10);
        x.solve();
        DUE.open(x, 2, 4, 3, -4527, 10);
        DUE.open(x, 2, 4, -1, 0, 0);
        DUE.open(x, 2, 4, -4, 0, 0);
        DUE.open(x, 2, 4, Integer.MIN_VALUE, 0, 0);
        DUE.open(x, 2, 4, Integer.MAX_VALUE, 0, 0);
    }

    private static void audit() {
        DUE.about("18 audit");
        RateChains x = Edges.withPlants(1);
        DUE.same("no feeds", x.audit(0, 0), -1);
        for (int i = 0; i < 7; i++) {
            x.feed(0, 0, i, 0, 0);
        }
        DUE.same("none", x.audit(0, 0), -1);
        DUE.same("-1", x.audit(0, -1), -1);
        DUE.same("least", x.audit(0, Integer.MIN_VALUE), -1);
        DUE.same("more than there are", x.audit(0, 8), -1);
        DUE.same("most", x.audit(0, Integer.MAX_VALUE), -1);
        // Seed 0: x is 1442695040888963407, then 1876011003808476466 and 11166244414315200793.
        DUE.same("three", x.audit(0, 3), 3);
        DUE.same("0 and 167951807 % 7 = 2 change", x.drawn(0), 2);
        DUE.same("1 and 1 + 218396424 % 6 = 1 change", x.drawn(1), 1);
        DUE.same("2 and 2 + 1299921937 % 5 = 4 change", x.drawn(2), 4);
        DUE.same("all", x.audit(-1, 7), 7);
        boolean[] seen = new boolean[7];
        for (int k = 0; k < 7; k++) {
            int row = x.drawn(k);
            DUE.yes("different ones", row >= 0 && row < 7 && !seen[row]);
            if (row >= 0 && row < 7) {
                seen[row] = true;
            }
        }
    }

    private static void drawn() {
        DUE.about("19 drawn");
        RateChains x = Edges.withPlants(1);
        for (int i = 0; i < 4; i++) {
            x.feed(0, 0, i, 0, 0);
        }
        DUE.same("nothing was drawn", x.drawn(0), -1);
        x.audit(12345, 4);
        int[] rows = {x.drawn(0), x.drawn(1), x.drawn(2), x.drawn(3)};
        DUE.same("no fifth one", x.drawn(4), -1);
        DUE.same("-1", x.drawn(-1), -1);
        DUE.same("least", x.drawn(Integer.MIN_VALUE), -1);
        DUE.same("most", x.drawn(Integer.MAX_VALUE), -1);
        x.audit(99, 5);
        x.audit(99, 0);
        x.feed(0, 0, 9, 0, 0);
        x.solve();
        for (int k = 0; k < 4; k++) {
            DUE.same("what a refused audit leaves", x.drawn(k), rows[k]);
        }
        x.audit(99, 1);
        DUE.yes("one", x.drawn(0) >= 0);
        DUE.same("no second one", x.drawn(1), -1);
    }

    private static void unit() {
        DUE.about("20 unit");
        RateChains x = new RateChains();
        int[] noUnits = {-1, 256, Integer.MIN_VALUE, Integer.MAX_VALUE};
        for (int no : noUnits) {
            DUE.no("unit(" + no + ")", x.unit(no));
        }
        DUE.same("no text", x.form(0), -1);
        for (int i = 0; i < 200; i++) {
            DUE.yes("unit " + i, x.unit(255 - i));
        }
        DUE.no("one more", x.unit(0));
        for (int i = 0; i < 200; i++) {
            DUE.same("form(" + i + ")", x.form(i), 255 - i);
        }
        DUE.same("form(200)", x.form(200), -1);
        x = new RateChains();
        DUE.yes("0", x.unit(0));
        DUE.yes("255", x.unit(255));
        DUE.same("0", x.form(0), 0);
        DUE.same("255", x.form(1), 255);
    }

    private static void form() {
        DUE.about("21 form");
        RateChains x = Edges.withPlants(1);
        x.average(0, 1, 10);
        x.feed(0, 0, 1, 0, 0);
        x.feed(0, 0, 1, 0, 1);
        x.feed(0, 1, 1000, 9, 3);
        x.feed(0, 2, 12, 3, 3);
        x.metals(9, 1000000000L);
        DUE.writes(x, "a#00b##19#2#23#39x#40#0:#4/#/0#9");
        DUE.reads(x, "a-b#-#2--x#40#0:#4/#/0#9");
        x.share(0, 0, 1, 1);
        x.solve();
        DUE.reads(x, "a-b#-#2--x#40#0:#4/#/0#9");
        x.share(0, 0, 0, 1);
        x.solve();
        DUE.reads(x, "a1b#900#2101000000000x#40#0:#4/#/0#9");
        DUE.same("form(-1)", x.form(-1), -1);
        DUE.same("least", x.form(Integer.MIN_VALUE), -1);
        DUE.same("most", x.form(Integer.MAX_VALUE), -1);
        DUE.writes(x, "9#");
        x.claim(0, 3, 9, 5);
        x.metals(9, 0);
        DUE.reads(x, "a1b#900#2101000000000x#40#0:#4/#/0#99#");
        x = Edges.withPlants(0);
        DUE.writes(x, "#0");
        DUE.reads(x, "#0");
        DUE.writes(x, "0");
        DUE.reads(x, "-");
        DUE.writes(x, "#01#0");
        DUE.reads(x, "--#0");
        x.solve();
        DUE.reads(x, "00#0");
    }

    private static void formLargest() {
        DUE.about("21 form, the longest");
        RateChains x = Edges.withPlants(1);
        x.point(0, 3);
        for (int i = 0; i < 60; i++) {
            x.feed(0, 3, 1000000000L, 0, i % 4);
        }
        x.metals(0, 987654321L);
        x.solve();
        StringBuilder text = new StringBuilder();
        StringBuilder form = new StringBuilder();
        for (int i = 0; i < 66; i++) {
            text.append("#30");
            form.append("60987654321");
        }
        text.append("##");
        form.append("##");
        DUE.writes(x, text.toString());
        DUE.no("no room for more", x.unit('#'));
        // Every fifth byte keeps the object within its 512 calls.
        for (int i = 0; i < form.length(); i += 5) {
            DUE.same("form(" + i + ")", x.form(i), form.charAt(i));
        }
        DUE.same("the last byte", x.form(form.length() - 1), '#');
        DUE.same("behind it", x.form(form.length()), -1);
    }
}
