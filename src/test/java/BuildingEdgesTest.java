/** The boundary cases of promises 1 to 8, a test for each sentence that names one. */
public final class BuildingEdgesTest {
    private static final long MOST_GRAMS = 1000000000L;
    private static final long MOST_PLACED = 100000000000L;

    private static final Due DUE = new Due();

    public static void main(String[] args) {
        newHasNoPlants();
        newHasNoFeeds();
        newHasNoText();
        newHasNothingSolved();
        newHasNothingDrawn();
        newIsApartFromOthers();
        lastOfFiveHundredTwelveCalls();

        plantsFromNoneToFive();
        noSixthPlant();
        plantsAddedLater();

        shareOfNoneSuch();
        shareBelowIsNone();
        shareAboveTooSmallOrLarge();
        shareOfLongsThatWouldFitAnInt();
        shareToItself();
        sharesTogetherOne();
        sharesTogetherMore();
        sharesOfAllPlantsTogetherOne();
        shareBecomesAnother();
        shareBecomesLargerThanTheRest();
        shareAtFirst();
        shareBackToNothing();
        shareOfOneAlone();

        pointOfNoneSuch();
        pointAlready();
        pointsOfManyKindsAndPlants();
        pointBeforeShareAndAverage();

        averageOfNoneSuch();
        averageIsNoFraction();
        averageOfNothingAndOfAll();
        averageBecomesAnother();
        averageOnlyWithoutShares();

        feedOfNoneSuch();
        feedOfFirstAndLast();
        feedGramsTooSmallOrLarge();
        feedsFull();
        feedsOfNothingFillRows();
        feedsRefusedFillNoRows();

        metalsOfNoYear();
        metalsTooSmallOrLarge();
        metalsAtFirst();
        metalsBecomeAnother();
        metalsOfFirstAndLastYear();

        placedOfNoneSuch();
        placedTooSmallOrLarge();
        placedAtFirst();
        placedBecomesAnother();
        placedOfFirstAndLast();
        DUE.end();
    }

    private static void newHasNoPlants() {
        DUE.about("1: no plants");
        RateChains x = new RateChains();
        DUE.no("share", x.share(0, 0, 0, 1));
        DUE.no("point", x.point(0, 0));
        DUE.no("average", x.average(0, 0, 1));
        DUE.no("feed", x.feed(0, 0, 0, 0, 0));
        DUE.same("twice", x.twice(0), -1);
        DUE.same("solve", x.solve(), 0);
        DUE.open(x, 0, 1, 0, 0, 0);
        DUE.same("plant", x.plant(), 0);
    }

    private static void newHasNoFeeds() {
        DUE.about("1: no feeds");
        RateChains x = new RateChains();
        DUE.same("audit of 0", x.audit(7, 0), -1);
        DUE.same("audit of 1", x.audit(7, 1), -1);
        x = Edges.withPointOf(0);
        x.solve();
        for (int year = 0; year < 10; year++) {
            DUE.counted(x, 0, year, 0, 1);
        }
        x = Edges.withPlants(5);
        x.solve();
        DUE.same("told", x.told(0), -1);
    }

    private static void newHasNoText() {
        DUE.about("1: no text");
        RateChains x = new RateChains();
        DUE.same("form(0)", x.form(0), -1);
        x.solve();
        DUE.same("form(0), solved", x.form(0), -1);
    }

    private static void newHasNothingSolved() {
        DUE.about("1: nothing was solved");
        RateChains x = new RateChains();
        for (int kind = 0; kind < 4; kind++) {
            for (int year = 0; year < 10; year++) {
                DUE.same("counted above", x.counted(kind, year, 0), -1);
                DUE.same("counted below", x.counted(kind, year, 1), -1);
                DUE.same("rate above", x.rate(kind, year, 0), -1);
                DUE.same("rate below", x.rate(kind, year, 1), -1);
                DUE.same("left", x.left(year % 4, kind, year), -1);
                DUE.same("claim", x.claim(year % 4, kind, year, 1), -1);
            }
        }
        DUE.yes("once", x.once());
        DUE.same("told", x.told(0), -1);
        x.plant();
        DUE.open(x, 0, 1, 0, 0, 0);
    }

    private static void newHasNothingDrawn() {
        DUE.about("1: nothing was drawn");
        RateChains x = Edges.withPlants(1);
        DUE.same("drawn(0)", x.drawn(0), -1);
        x.feed(0, 0, 1, 0, 0);
        DUE.same("drawn(0) with a feed", x.drawn(0), -1);
    }

    private static void newIsApartFromOthers() {
        DUE.about("1: a new object beside a full one");
        RateChains full = Edges.withPlants(5);
        full.point(0, 3);
        full.average(0, 1, 2);
        full.feed(0, 3, 8, 0, 0);
        full.metals(0, 9);
        full.placed(3, 0, 10);
        full.solve();
        full.audit(1, 1);
        full.unit('x');
        RateChains x = new RateChains();
        DUE.same("counted", x.counted(3, 0, 0), -1);
        DUE.same("drawn", x.drawn(0), -1);
        DUE.same("form", x.form(0), -1);
        DUE.same("plant", x.plant(), 0);
        DUE.same("audit", x.audit(1, 1), -1);
        DUE.same("solve", x.solve(), 0);
        DUE.counted(x, 3, 0, 0, 1);
        DUE.rate(x, 3, 0, 0, 0);
        DUE.same("twice", x.twice(0), -1);
        DUE.counted(full, 3, 0, 17, 1);
    }

    private static void lastOfFiveHundredTwelveCalls() {
        DUE.about("an object is used for at most 512 calls");
        RateChains x = new RateChains();
        x.plant();
        x.average(0, 1, 2);
        x.unit('#');
        x.unit('0');
        x.unit('0');
        for (int call = 6; call <= 65; call++) {
            DUE.yes("feed", x.feed(0, 0, 3, 0, 0));
        }
        for (int call = 66; call <= 507; call += 2) {
            DUE.same("solve", x.solve(), 0);
            DUE.same("claim", x.claim(0, 0, 2, call), 90 - call < 0 ? -1 : 90 - call);
        }
        DUE.same("call 508", x.solve(), 0);
        DUE.same("call 509", x.counted(0, 0, 0), 90);
        DUE.same("call 510", x.audit(1, 60), 60);
        DUE.same("call 511", x.left(0, 0, 0), 90);
        DUE.same("call 512", x.form(1), '0');
    }

    private static void plantsFromNoneToFive() {
        DUE.about("2: plants are numbered from 0 on");
        RateChains x = new RateChains();
        for (int count = 0; count < 5; count++) {
            DUE.no("point of " + count + " before it is there", x.point(count, 0));
            DUE.same("plant", x.plant(), count);
            DUE.yes("point of " + count, x.point(count, 0));
        }
    }

    private static void noSixthPlant() {
        DUE.about("2: NONE when there are 5");
        RateChains x = Edges.withPlants(4);
        DUE.same("the fifth", x.plant(), 4);
        for (int more = 0; more < 3; more++) {
            DUE.same("one more", x.plant(), -1);
            DUE.no("feed of a sixth", x.feed(5, 0, 1, 0, 0));
            DUE.yes("feed of the fifth", x.feed(4, 0, 1, 0, 0));
        }
    }

    private static void plantsAddedLater() {
        DUE.about("2: one more plant, after it was solved");
        RateChains x = Edges.withPointOf(0);
        x.feed(0, 0, 5, 0, 0);
        x.solve();
        DUE.same("plant", x.plant(), 1);
        DUE.counted(x, 0, 0, 5, 1);
        DUE.yes("feed", x.feed(1, 0, 7, 0, 0));
        DUE.yes("share", x.share(1, 0, 1, 1));
        x.solve();
        DUE.counted(x, 0, 0, 12, 1);
    }

    private static void shareOfNoneSuch() {
        DUE.about("3: false when there are none such plants");
        for (int count = 0; count <= 5; count++) {
            RateChains x = Edges.withPlants(count);
            for (int plant = -1; plant <= 5; plant++) {
                for (int to = -1; to <= 5; to++) {
                    boolean such = plant >= 0 && plant < count && to >= 0 && to < count;
                    DUE.is("share(" + plant + ", " + to + ") of " + count, x.share(plant, to, 1, 5), such);
                }
            }
        }
        RateChains x = Edges.withPlants(5);
        for (int no : Edges.NO_PLANTS) {
            DUE.no("from " + no, x.share(no, 4, 0, 1));
            DUE.no("to " + no, x.share(4, no, 0, 1));
            DUE.no("from and to " + no, x.share(no, no, 0, 1));
        }
    }

    private static void shareBelowIsNone() {
        DUE.about("3: it is no fraction, below being 1, 2, 5 or 10");
        RateChains x = Edges.withPlants(1);
        for (long below = -11; below <= 101; below++) {
            boolean isBelow = below == 1 || below == 2 || below == 5 || below == 10;
            DUE.is("0 / " + below, x.share(0, 0, 0, below), isBelow);
            DUE.is("1 / " + below, x.share(0, 0, 1, below), isBelow);
        }
    }

    private static void shareAboveTooSmallOrLarge() {
        DUE.about("3: it is no fraction, above of 0 .. below");
        RateChains x = Edges.withPlants(1);
        for (long below : Edges.BELOWS) {
            DUE.no("-1 / " + below, x.share(0, 0, -1, below));
            DUE.no("-" + below + " / " + below, x.share(0, 0, -below, below));
            DUE.yes("0 / " + below, x.share(0, 0, 0, below));
            DUE.yes(below + " / " + below, x.share(0, 0, below, below));
            DUE.no(below + " + 1 / " + below, x.share(0, 0, below + 1, below));
            DUE.no("least / " + below, x.share(0, 0, Long.MIN_VALUE, below));
            DUE.no("greatest / " + below, x.share(0, 0, Long.MAX_VALUE, below));
        }
        DUE.no("-1 / -1", x.share(0, 0, -1, -1));
        DUE.no("-5 / -10", x.share(0, 0, -5, -10));
        DUE.no("0 / 0", x.share(0, 0, 0, 0));
    }

    private static void shareOfLongsThatWouldFitAnInt() {
        DUE.about("3: it is no fraction, numbers beyond an int");
        RateChains x = Edges.withPlants(1);
        long beyond = 1L << 32;
        DUE.no("above", x.share(0, 0, beyond + 1, 2));
        DUE.no("below", x.share(0, 0, 1, beyond + 2));
        DUE.no("both", x.share(0, 0, beyond + 1, beyond + 2));
        DUE.no("2^63 and 10", x.share(0, 0, 1, Long.MIN_VALUE + 10));
        DUE.no("above that wraps when made tenths", x.share(0, 0, 1L << 63, 5));
        DUE.no("above whose tenths would wrap to 2", x.share(0, 0, (1L << 63) + 1, 5));
    }

    private static void shareToItself() {
        DUE.about("3: a share goes to a plant (itself, too)");
        for (int plant = 0; plant < 5; plant++) {
            RateChains x = Edges.withPlants(5);
            DUE.yes("9/10", x.share(plant, plant, 9, 10));
            DUE.same("a tenth is lost", x.solve(), 0);
            DUE.yes("all", x.share(plant, plant, 1, 1));
            DUE.same("nothing is", x.solve(), 1 + plant);
        }
    }

    private static void sharesTogetherOne() {
        DUE.about("3: all shares of one together at most 1, just 1");
        RateChains x = Edges.withPlants(5);
        DUE.yes("9/10", x.share(0, 1, 9, 10));
        DUE.yes("1/10", x.share(0, 2, 1, 10));
        DUE.yes("0 more", x.share(0, 3, 0, 10));
        DUE.yes("1/2 of another", x.share(1, 0, 1, 2));
        DUE.yes("2/5", x.share(1, 1, 2, 5));
        DUE.yes("1/10", x.share(1, 2, 1, 10));
        DUE.yes("5/10", x.share(2, 0, 5, 10));
        DUE.yes("1/2", x.share(2, 1, 1, 2));
    }

    private static void sharesTogetherMore() {
        DUE.about("3: or shares would be more than 1");
        RateChains x = Edges.withPlants(5);
        x.share(0, 1, 9, 10);
        DUE.no("1/5 more", x.share(0, 2, 1, 5));
        DUE.no("1 more", x.share(0, 0, 1, 1));
        DUE.yes("1/10 more", x.share(0, 2, 1, 10));
        for (int to = 0; to < 5; to++) {
            DUE.no("one more tenth to " + to, x.share(0, to, to == 1 ? 10 : to == 2 ? 2 : 1, 10));
        }
        // Both stay as they were: 9/10 of 10 grams to a point, the rest to a bare plant.
        x.point(1, 0);
        x.feed(0, 0, 10, 0, 0);
        x.solve();
        DUE.counted(x, 0, 0, 9, 1);
    }

    private static void sharesOfAllPlantsTogetherOne() {
        DUE.about("3: five shares together at most 1");
        RateChains x = Edges.withPlants(5);
        for (int to = 0; to < 5; to++) {
            DUE.yes("1/5 to " + to, x.share(3, to, 1, 5));
        }
        for (int to = 0; to < 5; to++) {
            DUE.no("3/10 to " + to, x.share(3, to, 3, 10));
            DUE.yes("1/10 to " + to, x.share(3, to, 1, 10));
            DUE.yes("2/10 to " + to, x.share(3, to, 2, 10));
        }
    }

    private static void shareBecomesAnother() {
        DUE.about("3: a share becomes another one");
        RateChains x = Edges.withPlants(2);
        x.point(1, 0);
        x.feed(0, 0, 10, 0, 0);
        long[][] shares = {{1, 2, 5}, {1, 10, 1}, {1, 1, 10}, {4, 5, 8}, {0, 2, 0}, {3, 10, 3}};
        for (long[] share : shares) {
            DUE.yes("share", x.share(0, 1, share[0], share[1]));
            x.solve();
            DUE.counted(x, 0, 0, share[2], 1);
        }
    }

    private static void shareBecomesLargerThanTheRest() {
        DUE.about("3: the share that becomes another one does not count beside it");
        RateChains x = Edges.withPlants(2);
        x.share(0, 1, 3, 5);
        DUE.yes("4/5 in its place", x.share(0, 1, 4, 5));
        DUE.yes("all in its place", x.share(0, 1, 1, 1));
        DUE.yes("all once more", x.share(0, 1, 1, 1));
        DUE.no("a tenth beside it", x.share(0, 0, 1, 10));
        DUE.yes("9/10 in its place", x.share(0, 1, 9, 10));
        DUE.yes("a tenth beside it", x.share(0, 0, 1, 10));
    }

    private static void shareAtFirst() {
        DUE.about("3: a share is 0 at first");
        RateChains x = Edges.withPlants(5);
        for (int plant = 0; plant < 5; plant++) {
            x.point((plant + 1) % 5, 0);
            x.feed(plant, 1, 1, plant, 0);
        }
        x.solve();
        for (int plant = 0; plant < 5; plant++) {
            DUE.counted(x, 1, plant, 0, 1);
            DUE.same("each is bare", x.told(plant), plant);
            DUE.yes("there is room for all", x.share(plant, (plant + 1) % 5, 1, 1));
        }
    }

    private static void shareBackToNothing() {
        DUE.about("3 and the terms: a share of 0 is not above 0");
        RateChains x = Edges.withPlants(2);
        x.average(0, 1, 5);
        x.feed(0, 0, 10, 0, 0);
        DUE.yes("0 to a plant", x.share(0, 1, 0, 5));
        x.solve();
        DUE.counted(x, 0, 0, 8, 1);
        x.share(0, 1, 1, 10);
        x.solve();
        DUE.counted(x, 0, 0, 0, 1);
        x.share(0, 1, 0, 1);
        x.solve();
        DUE.counted(x, 0, 0, 8, 1);
    }

    private static void shareOfOneAlone() {
        DUE.about("3: all shares of ONE, others have their own");
        RateChains x = Edges.withPlants(5);
        for (int plant = 0; plant < 5; plant++) {
            DUE.yes("all of " + plant + " to 0", x.share(plant, 0, 1, 1));
        }
    }

    private static void pointOfNoneSuch() {
        DUE.about("4: false when there are none such");
        for (int count = 0; count <= 5; count++) {
            RateChains x = Edges.withPlants(count);
            for (int plant = -1; plant <= 5; plant++) {
                for (int kind = -1; kind <= 4; kind++) {
                    boolean such = plant >= 0 && plant < count && kind >= 0 && kind < 4;
                    DUE.is("point(" + plant + ", " + kind + ") of " + count, x.point(plant, kind), such);
                }
            }
        }
        RateChains x = Edges.withPlants(5);
        for (int no : Edges.NO_PLANTS) {
            DUE.no("plant " + no, x.point(no, 3));
        }
        for (int no : Edges.NO_KINDS) {
            DUE.no("kind " + no, x.point(4, no));
        }
    }

    private static void pointAlready() {
        DUE.about("4: or it is already");
        RateChains x = Edges.withPlants(2);
        DUE.yes("first", x.point(1, 2));
        DUE.no("already", x.point(1, 2));
        DUE.no("still", x.point(1, 2));
        x.feed(1, 2, 4, 0, 0);
        x.solve();
        DUE.counted(x, 2, 0, 4, 1);
        DUE.no("already, solved", x.point(1, 2));
        DUE.yes("another kind", x.point(1, 3));
        DUE.yes("another plant", x.point(0, 2));
    }

    private static void pointsOfManyKindsAndPlants() {
        DUE.about("4: a plant may be the point of kinds, a kind may have many points");
        RateChains x = Edges.withPlants(5);
        for (int plant = 0; plant < 5; plant++) {
            for (int kind = 0; kind < 4; kind++) {
                DUE.yes("point", x.point(plant, kind));
                x.feed(plant, kind, 1 + plant, kind, 0);
            }
        }
        x.solve();
        for (int kind = 0; kind < 4; kind++) {
            DUE.counted(x, kind, kind, 15, 1);
        }
    }

    private static void pointBeforeShareAndAverage() {
        DUE.about("4 and the terms: at its point all of it counts");
        RateChains x = Edges.withPlants(2);
        x.share(0, 1, 1, 1);
        x.average(0, 1, 1);
        x.point(0, 1);
        x.feed(0, 0, 6, 0, 0);
        x.feed(0, 1, 6, 0, 0);
        x.solve();
        DUE.counted(x, 1, 0, 6, 1);
        DUE.counted(x, 0, 0, 0, 1);
    }

    private static void averageOfNoneSuch() {
        DUE.about("5: false when there is none such");
        for (int count = 0; count <= 5; count++) {
            RateChains x = Edges.withPlants(count);
            for (int plant = -1; plant <= 5; plant++) {
                DUE.is("average(" + plant + ") of " + count, x.average(plant, 1, 2), plant >= 0 && plant < count);
            }
            for (int no : Edges.NO_PLANTS) {
                DUE.no("plant " + no, x.average(no, 0, 1));
            }
        }
    }

    private static void averageIsNoFraction() {
        DUE.about("5: or it is no fraction");
        RateChains x = Edges.withPlants(1);
        for (long below = -11; below <= 101; below++) {
            DUE.is("1 / " + below, x.average(0, 1, below), Edges.isFraction(1, below));
        }
        for (long below : Edges.BELOWS) {
            DUE.no("-1 / " + below, x.average(0, -1, below));
            DUE.yes("0 / " + below, x.average(0, 0, below));
            DUE.yes(below + " / " + below, x.average(0, below, below));
            DUE.no(below + " + 1 / " + below, x.average(0, below + 1, below));
            DUE.no("2^32 / " + below, x.average(0, 1L << 32, below));
            DUE.no("least / " + below, x.average(0, Long.MIN_VALUE, below));
            DUE.no("greatest / " + below, x.average(0, Long.MAX_VALUE, below));
        }
        DUE.no("1 / 2^32 and 2", x.average(0, 1, (1L << 32) + 2));
        DUE.no("0 / 0", x.average(0, 0, 0));
        DUE.no("-1 / -2", x.average(0, -1, -2));
    }

    private static void averageOfNothingAndOfAll() {
        DUE.about("5 and the terms: what the average leaves counts");
        RateChains x = Edges.withPlants(1);
        x.feed(0, 0, 7, 0, 0);
        for (long below : Edges.BELOWS) {
            x.average(0, 0, below);
            x.solve();
            DUE.counted(x, 0, 0, 7, 1);
            DUE.same("it is not bare", x.told(0), -1);
            x.average(0, below, below);
            x.solve();
            DUE.counted(x, 0, 0, 0, 1);
            DUE.same("it is not bare though nothing is left", x.told(0), -1);
        }
    }

    private static void averageBecomesAnother() {
        DUE.about("5: an average becomes another one, or stays when it is no fraction");
        RateChains x = Edges.withPlants(2);
        x.feed(0, 0, 10, 0, 0);
        x.average(0, 1, 10);
        DUE.yes("another", x.average(0, 2, 5));
        DUE.no("no fraction", x.average(0, 6, 5));
        DUE.yes("of another plant", x.average(1, 1, 1));
        x.solve();
        DUE.counted(x, 0, 0, 6, 1);
        DUE.yes("the same one again", x.average(0, 2, 5));
        x.solve();
        DUE.counted(x, 0, 0, 6, 1);
    }

    private static void averageOnlyWithoutShares() {
        DUE.about("5 and the terms: the average counts only where no share is above 0");
        RateChains x = Edges.withPlants(2);
        x.average(0, 0, 1);
        x.feed(0, 0, 10, 0, 0);
        x.share(0, 1, 1, 10);
        x.solve();
        DUE.counted(x, 0, 0, 0, 1);
        x.average(1, 0, 1);
        x.solve();
        DUE.counted(x, 0, 0, 1, 1);
    }

    private static void feedOfNoneSuch() {
        DUE.about("6: false when there are none such");
        for (int count = 0; count <= 5; count++) {
            RateChains x = Edges.withPlants(count);
            for (int plant = -1; plant <= 5; plant++) {
                DUE.is("plant " + plant + " of " + count, x.feed(plant, 0, 1, 0, 0), plant >= 0 && plant < count);
            }
        }
        RateChains x = Edges.withPlants(5);
        for (int no : Edges.NO_PLANTS) {
            DUE.no("plant " + no, x.feed(no, 0, 1, 0, 0));
        }
        for (int no : Edges.NO_KINDS) {
            DUE.no("kind " + no, x.feed(4, no, 1, 0, 0));
        }
        for (int no : Edges.NO_YEARS) {
            DUE.no("year " + no, x.feed(4, 0, 1, no, 0));
        }
        for (int no : Edges.NO_COUNTRIES) {
            DUE.no("country " + no, x.feed(4, 0, 1, 0, no));
        }
        DUE.same("there is none", x.audit(1, 1), -1);
    }

    private static void feedOfFirstAndLast() {
        DUE.about("6: kinds 0 .. 3, years 0 .. 9, countries 0 .. 3");
        RateChains x = Edges.withPlants(5);
        for (int kind = 0; kind < 4; kind++) {
            x.point(0, kind);
            x.point(4, kind);
        }
        DUE.yes("the first of all", x.feed(0, 0, 1, 0, 0));
        DUE.yes("the last of all", x.feed(4, 3, 2, 9, 3));
        x.solve();
        DUE.same("the first", x.left(0, 0, 0), 1);
        DUE.same("the last", x.left(3, 3, 9), 2);
        DUE.counted(x, 0, 0, 1, 1);
        DUE.counted(x, 3, 9, 2, 1);
    }

    private static void feedGramsTooSmallOrLarge() {
        DUE.about("6: of 0 .. 1000000000 grams");
        RateChains x = Edges.withPointOf(0);
        DUE.no("-1", x.feed(0, 0, -1, 0, 0));
        DUE.no("one more", x.feed(0, 0, MOST_GRAMS + 1, 0, 0));
        DUE.no("least", x.feed(0, 0, Long.MIN_VALUE, 0, 0));
        DUE.no("greatest", x.feed(0, 0, Long.MAX_VALUE, 0, 0));
        DUE.no("2^32 and 1", x.feed(0, 0, (1L << 32) + 1, 0, 0));
        DUE.same("none was taken", x.audit(0, 1), -1);
        DUE.yes("0", x.feed(0, 0, 0, 0, 0));
        x.solve();
        DUE.counted(x, 0, 0, 0, 1);
        DUE.yes("most", x.feed(0, 0, MOST_GRAMS, 0, 0));
        x.solve();
        DUE.counted(x, 0, 0, MOST_GRAMS, 1);
        DUE.same("two were taken", x.audit(0, 2), 2);
    }

    private static void feedsFull() {
        DUE.about("6: or there are 60");
        RateChains x = Edges.withPointOf(0);
        for (int row = 0; row < 60; row++) {
            DUE.yes("row " + row, x.feed(0, 0, 1, row % 10, row % 4));
            DUE.same("so many", x.audit(row, row + 1), row + 1);
            DUE.same("not one more", x.audit(row, row + 2), -1);
        }
        DUE.no("one more", x.feed(0, 0, 1, 0, 0));
        DUE.no("one more of nothing", x.feed(0, 0, 0, 0, 0));
        DUE.same("still sixty", x.audit(0, 60), 60);
        DUE.same("not sixty-one", x.audit(0, 61), -1);
        x.solve();
        for (int year = 0; year < 10; year++) {
            DUE.counted(x, 0, year, 6, 1);
        }
        DUE.no("one more after it was solved", x.feed(0, 0, 1, 0, 0));
    }

    private static void feedsOfNothingFillRows() {
        DUE.about("6: feeds of 0 grams are rows, too");
        RateChains x = Edges.withPointOf(0);
        for (int row = 0; row < 60; row++) {
            DUE.yes("0 grams", x.feed(0, 0, 0, 0, 0));
        }
        DUE.no("one more", x.feed(0, 0, 1, 0, 0));
        DUE.same("sixty", x.audit(0, 60), 60);
    }

    private static void feedsRefusedFillNoRows() {
        DUE.about("6: feeds that are refused are no rows");
        RateChains x = Edges.withPointOf(0);
        for (int row = 0; row < 60; row++) {
            DUE.no("refused", x.feed(0, 0, -1, 0, 0));
            DUE.no("refused, too", x.feed(1, 0, 1, 0, 0));
            DUE.yes("row " + row, x.feed(0, 0, 1, 0, 0));
        }
        DUE.no("one more", x.feed(0, 0, 1, 0, 0));
    }

    private static void metalsOfNoYear() {
        DUE.about("7: years 0 .. 9");
        RateChains x = new RateChains();
        for (int no : Edges.NO_YEARS) {
            DUE.no("year " + no, x.metals(no, 1));
            DUE.no("year " + no + ", none", x.metals(no, 0));
        }
        x.solve();
        for (int year = 0; year < 10; year++) {
            DUE.counted(x, 3, year, 0, 1);
        }
    }

    private static void metalsTooSmallOrLarge() {
        DUE.about("7: grams, 0 .. 1000000000");
        RateChains x = new RateChains();
        DUE.no("-1", x.metals(0, -1));
        DUE.no("one more", x.metals(0, MOST_GRAMS + 1));
        DUE.no("least", x.metals(0, Long.MIN_VALUE));
        DUE.no("greatest", x.metals(0, Long.MAX_VALUE));
        DUE.no("2^32 and 1", x.metals(0, (1L << 32) + 1));
        x.solve();
        DUE.counted(x, 3, 0, 0, 1);
        DUE.yes("most", x.metals(0, MOST_GRAMS));
        x.solve();
        DUE.counted(x, 3, 0, MOST_GRAMS, 1);
        DUE.no("one more leaves them", x.metals(0, MOST_GRAMS + 1));
        DUE.no("-1 leaves them", x.metals(0, -1));
        x.solve();
        DUE.counted(x, 3, 0, MOST_GRAMS, 1);
        DUE.yes("0", x.metals(0, 0));
        x.solve();
        DUE.counted(x, 3, 0, 0, 1);
    }

    private static void metalsAtFirst() {
        DUE.about("7: 0 at first");
        RateChains x = new RateChains();
        x.solve();
        for (int year = 0; year < 10; year++) {
            DUE.counted(x, 3, year, 0, 1);
            DUE.same("stock", x.left(0, 3, year), 0);
        }
    }

    private static void metalsBecomeAnother() {
        DUE.about("7: a year's metals become so many grams");
        RateChains x = new RateChains();
        x.metals(4, 30);
        x.metals(4, 12);
        x.solve();
        DUE.counted(x, 3, 4, 12, 1);
        DUE.counted(x, 3, 3, 0, 1);
        DUE.counted(x, 3, 5, 0, 1);
    }

    private static void metalsOfFirstAndLastYear() {
        DUE.about("7: a year's metals are of kind 3 and country 0");
        RateChains x = new RateChains();
        DUE.yes("year 0", x.metals(0, 5));
        DUE.yes("year 9", x.metals(9, 6));
        x.solve();
        DUE.same("year 0", x.left(0, 3, 0), 5);
        DUE.same("year 9", x.left(0, 3, 9), 6);
        for (int country = 0; country < 4; country++) {
            for (int kind = 0; kind < (country == 0 ? 3 : 4); kind++) {
                DUE.same("country " + country + ", kind " + kind, x.left(country, kind, 0) + x.left(country, kind, 9), 0);
            }
        }
    }

    private static void placedOfNoneSuch() {
        DUE.about("8: kinds 0 .. 3, years 0 .. 9");
        RateChains x = new RateChains();
        for (int no : Edges.NO_KINDS) {
            DUE.no("kind " + no, x.placed(no, 0, 1));
            DUE.no("kind " + no + ", none", x.placed(no, 9, 0));
        }
        for (int no : Edges.NO_YEARS) {
            DUE.no("year " + no, x.placed(0, no, 1));
            DUE.no("year " + no + ", none", x.placed(3, no, 0));
        }
        x.solve();
        for (int kind = 0; kind < 4; kind++) {
            for (int year = 0; year < 10; year++) {
                DUE.rate(x, kind, year, 0, 0);
            }
        }
    }

    private static void placedTooSmallOrLarge() {
        DUE.about("8: 0 .. 100000000000 grams");
        RateChains x = Edges.withPointOf(2);
        x.feed(0, 2, 1, 3, 0);
        x.solve();
        DUE.no("-1", x.placed(2, 3, -1));
        DUE.no("one more", x.placed(2, 3, MOST_PLACED + 1));
        DUE.no("least", x.placed(2, 3, Long.MIN_VALUE));
        DUE.no("greatest", x.placed(2, 3, Long.MAX_VALUE));
        DUE.rate(x, 2, 3, 0, 0);
        DUE.yes("most", x.placed(2, 3, MOST_PLACED));
        DUE.rate(x, 2, 3, 1, MOST_PLACED);
        DUE.no("one more leaves it", x.placed(2, 3, MOST_PLACED + 1));
        DUE.no("-1 leaves it", x.placed(2, 3, -1));
        DUE.rate(x, 2, 3, 1, MOST_PLACED);
        DUE.yes("0", x.placed(2, 3, 0));
        DUE.rate(x, 2, 3, 0, 0);
        DUE.yes("1", x.placed(2, 3, 1));
        DUE.rate(x, 2, 3, 1, 1);
    }

    private static void placedAtFirst() {
        DUE.about("8: 0 at first");
        RateChains x = new RateChains();
        x.solve();
        for (int kind = 0; kind < 4; kind++) {
            for (int year = 0; year < 10; year++) {
                DUE.rate(x, kind, year, 0, 0);
            }
        }
    }

    private static void placedBecomesAnother() {
        DUE.about("8: what was placed becomes another");
        RateChains x = Edges.withPointOf(1);
        x.feed(0, 1, 12, 5, 0);
        x.solve();
        x.placed(1, 5, 24);
        DUE.rate(x, 1, 5, 1, 2);
        x.placed(1, 5, 36);
        DUE.rate(x, 1, 5, 1, 3);
    }

    private static void placedOfFirstAndLast() {
        DUE.about("8: of a kind in a year, and of no other");
        RateChains x = new RateChains();
        DUE.yes("the first", x.placed(0, 0, 1));
        DUE.yes("the last", x.placed(3, 9, 1));
        x.solve();
        for (int kind = 0; kind < 4; kind++) {
            for (int year = 0; year < 10; year++) {
                boolean isPlaced = kind == 0 && year == 0 || kind == 3 && year == 9;
                DUE.rate(x, kind, year, 0, isPlaced ? 1 : 0);
            }
        }
    }
}
