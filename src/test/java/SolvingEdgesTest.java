/** The boundary cases of promises 9 to 17, a test for each sentence that names one. */
public final class SolvingEdgesTest {
    private static final long MOST_GRAMS = 1000000000L;
    private static final long MOST_CLAIMED = 1000000000000L;

    private static final Due DUE = new Due();

    public static void main(String[] args) {
        solveOfNothing();
        solveOfRingJustOpen();
        solveForSomeKind();
        solveForTheLeastPlant();
        solveOfRingThatNothingCameInto();
        solveOfRingWithAverage();
        solveOfRingBehindOtherPlants();
        solveWhenAllIsLost();
        solvedStays();
        solvedStaysUntilItStandsAgain();

        countedOfNoneSuch();
        countedOfNothingSolved();
        countedOfNothing();
        countedInLowestTerms();
        countedOfMetals();
        countedOfAllCountries();
        countedByRings();
        countedMost();
        countedAsItWasThen();

        rateOfNoneSuch();
        rateOfNothingSolved();
        rateOfNothingPlaced();
        rateOfNothingCounted();
        rateAsPlacedNow();
        rateOfCountryZero();
        rateAboveOne();
        rateMost();

        twiceOfNoneSuch();
        twiceByNumbers();
        twiceAsThingsAre();
        twiceOfAll();

        toldOfNoneSuch();
        toldOfNothingAlone();
        toldOfWhatGoesOn();
        toldOfTheLongestWays();
        toldOfBareOnly();
        toldOnceAPlant();
        toldAsItWasSolved();

        onceOfNothingSolved();
        onceWhenAllCounts();

        claimOfNoneSuch();
        claimTooSmallOrLarge();
        claimOfNothingSolved();
        claimOfAllAndOneMore();
        claimOldestFirst();
        claimOfFirstYears();
        claimOfLastYears();
        claimOfOwnStocks();
        claimOfWholeGrams();
        claimMost();
        claimsForgotten();

        leftOfNoneSuch();
        leftOfNothingSolved();
        leftDown();
        leftOfNothing();
        leftOfMetalsAlone();

        openOfNoneSuch();
        openOfNothingSolved();
        openBelowZero();
        openOfPlantsAddedSince();
        openOfAllCountriesWithoutMetals();
        openAsItWasSolved();
        openMost();
        DUE.end();
    }

    private static void solveOfNothing() {
        DUE.about("9: it stands, without plants or without shares");
        DUE.same("no plants", new RateChains().solve(), 0);
        for (int count = 1; count <= 5; count++) {
            DUE.same(count + " bare ones", Edges.withPlants(count).solve(), 0);
        }
    }

    private static void solveOfRingJustOpen() {
        DUE.about("9: something counts or is lost at last");
        for (int length = 1; length <= 5; length++) {
            RateChains x = Edges.withPlants(length);
            for (int plant = 0; plant < length; plant++) {
                x.share(plant, (plant + 1) % length, 1, 1);
            }
            DUE.same("a ring of " + length, x.solve(), 1);
            for (int plant = 0; plant < length; plant++) {
                x.share(plant, (plant + 1) % length, 9, 10);
                DUE.same("a tenth is lost at " + plant, x.solve(), 0);
                x.share(plant, (plant + 1) % length, 1, 1);
                DUE.same("nothing is", x.solve(), 1);
            }
        }
    }

    private static void solveForSomeKind() {
        DUE.about("9: for some kind");
        for (int kind = 0; kind < 4; kind++) {
            RateChains x = Edges.withPlants(2);
            x.share(1, 1, 1, 1);
            for (int other = 0; other < 4; other++) {
                DUE.yes("point", other == kind || x.point(1, other));
            }
            DUE.same("kind " + kind + " alone goes round", x.solve(), 2);
            x.point(1, kind);
            DUE.same("none does", x.solve(), 0);
        }
    }

    private static void solveForTheLeastPlant() {
        DUE.about("9: 1 and the least plant");
        for (int least = 0; least < 5; least++) {
            RateChains x = Edges.withPlants(5);
            for (int plant = least; plant < 5; plant++) {
                x.share(plant, plant, 1, 1);
            }
            DUE.same("from " + least + " on", x.solve(), 1 + least);
        }
        // For kind 0 the least is 3, for kind 2 it is 1; the least of all is told.
        RateChains x = Edges.withPlants(5);
        x.share(1, 1, 1, 1);
        x.share(3, 3, 1, 1);
        x.point(1, 0);
        x.point(1, 1);
        x.point(1, 3);
        DUE.same("the least over all kinds", x.solve(), 2);
        x.point(1, 2);
        x.point(3, 0);
        DUE.same("the other one", x.solve(), 4);
    }

    private static void solveOfRingThatNothingCameInto() {
        DUE.about("9: of what comes into any plant, fed or not");
        RateChains x = Edges.withPlants(2);
        x.share(1, 1, 1, 1);
        x.point(0, 0);
        x.feed(0, 0, 5, 0, 0);
        DUE.same("nothing comes into 1", x.solve(), 2);
    }

    private static void solveOfRingWithAverage() {
        DUE.about("9: an average does not count where there are shares");
        RateChains x = Edges.withPlants(1);
        x.share(0, 0, 1, 1);
        x.average(0, 1, 2);
        DUE.same("solve", x.solve(), 1);
    }

    private static void solveOfRingBehindOtherPlants() {
        DUE.about("9: all that comes goes round, after other plants, too");
        RateChains x = Edges.withPlants(4);
        x.share(3, 3, 1, 1);
        x.share(1, 2, 1, 1);
        x.share(2, 3, 1, 1);
        DUE.same("all of 1 and 2 ends in 3", x.solve(), 2);
        x.share(1, 2, 9, 10);
        DUE.same("a tenth of 1 is lost", x.solve(), 3);
        x.share(1, 0, 1, 10);
        DUE.same("a tenth of 1 comes into a bare plant", x.solve(), 3);
        x.share(2, 3, 9, 10);
        x.share(2, 1, 1, 10);
        DUE.same("of 2, too, by way of 1", x.solve(), 4);
    }

    private static void solveWhenAllIsLost() {
        DUE.about("9: it stands when all is lost, too");
        RateChains x = Edges.withPlants(2);
        x.share(0, 1, 1, 1);
        DUE.same("in a bare plant", x.solve(), 0);
        x.average(1, 1, 1);
        DUE.same("by an average of 1", x.solve(), 0);
    }

    private static void solvedStays() {
        DUE.about("9: what was solved stays then");
        RateChains x = Edges.withPlants(3);
        x.average(0, 1, 5);
        x.feed(0, 3, 9, 0, 0);
        x.feed(1, 2, 3, 2, 1);
        x.metals(0, 2);
        x.placed(3, 0, 46);
        DUE.writes(x, "#30");
        x.solve();
        x.claim(0, 3, 2, 4);
        x.feed(0, 3, 100, 0, 0);
        x.feed(2, 2, 3, 2, 1);
        x.metals(0, 200);
        x.average(0, 1, 2);
        x.share(2, 2, 1, 1);
        DUE.same("it does not stand", x.solve(), 3);
        DUE.counted(x, 3, 0, 46, 5);
        DUE.rate(x, 3, 0, 1, 5);
        DUE.same("the claim stays", x.left(0, 3, 0), 5);
        DUE.same("told(0)", x.told(0), 1);
        DUE.same("told(1)", x.told(1), -1);
        DUE.yes("once", x.once());
        DUE.open(x, 1, 0, 3, 36, 5);
        DUE.reads(x, "9");
        DUE.same("a claim of what is left", x.claim(0, 3, 0, 5), 0);
    }

    private static void solvedStaysUntilItStandsAgain() {
        DUE.about("the terms: until the next solve() that answers 0");
        RateChains x = Edges.withPlants(1);
        x.average(0, 0, 1);
        x.feed(0, 0, 5, 0, 0);
        x.share(0, 0, 1, 1);
        DUE.same("it does not stand", x.solve(), 1);
        DUE.same("nothing was solved", x.counted(0, 0, 0), -1);
        DUE.same("no stock", x.left(0, 0, 0), -1);
        DUE.same("no claim", x.claim(0, 0, 0, 1), -1);
        DUE.yes("once", x.once());
        x.share(0, 0, 0, 1);
        DUE.same("not until it is solved", x.counted(0, 0, 0), -1);
        DUE.same("it stands", x.solve(), 0);
        DUE.counted(x, 0, 0, 5, 1);
        x.feed(0, 0, 6, 0, 0);
        DUE.counted(x, 0, 0, 5, 1);
        x.share(0, 0, 1, 1);
        DUE.same("it does not stand again", x.solve(), 1);
        DUE.counted(x, 0, 0, 5, 1);
        x.share(0, 0, 0, 1);
        DUE.counted(x, 0, 0, 5, 1);
        DUE.same("it stands again", x.solve(), 0);
        DUE.counted(x, 0, 0, 11, 1);
    }

    private static RateChains solvedWithOneGram() {
        RateChains x = Edges.withPlants(1);
        for (int kind = 0; kind < 4; kind++) {
            x.point(0, kind);
            x.feed(0, kind, 1, 0, 0);
            x.feed(0, kind, 1, 9, 3);
            x.placed(kind, 0, 1);
            x.placed(kind, 9, 1);
        }
        x.solve();
        return x;
    }

    private static void countedOfNoneSuch() {
        DUE.about("10: NONE when there are none such");
        RateChains x = solvedWithOneGram();
        DUE.counted(x, 0, 0, 1, 1);
        DUE.counted(x, 3, 9, 1, 1);
        for (int part = 0; part < 2; part++) {
            for (int no : Edges.NO_KINDS) {
                DUE.same("kind " + no, x.counted(no, 0, part), -1);
            }
            for (int no : Edges.NO_YEARS) {
                DUE.same("year " + no, x.counted(0, no, part), -1);
            }
        }
        for (int no : Edges.NO_PARTS) {
            DUE.same("part " + no, x.counted(0, 0, no), -1);
        }
    }

    private static void countedOfNothingSolved() {
        DUE.about("10: or nothing was solved");
        RateChains x = Edges.withPointOf(0);
        x.feed(0, 0, 1, 0, 0);
        DUE.same("above", x.counted(0, 0, 0), -1);
        DUE.same("below", x.counted(0, 0, 1), -1);
        x.solve();
        DUE.counted(x, 0, 0, 1, 1);
    }

    private static void countedOfNothing() {
        DUE.about("the terms: 0 is 0 over 1");
        RateChains x = Edges.withPlants(2);
        x.share(0, 1, 7, 10);
        x.average(1, 1, 10);
        x.feed(0, 0, 0, 0, 0);
        x.solve();
        for (int kind = 0; kind < 4; kind++) {
            for (int year = 0; year < 10; year++) {
                DUE.counted(x, kind, year, 0, 1);
            }
        }
    }

    private static void countedInLowestTerms() {
        DUE.about("the terms: in lowest terms");
        RateChains x = Edges.withPlants(2);
        x.share(0, 1, 1, 2);
        x.average(1, 1, 5);
        long[][] rows = {{1, 2, 5}, {2, 4, 5}, {3, 6, 5}, {4, 8, 5}, {5, 2, 1}, {10, 4, 1}, {15, 6, 1}};
        for (int year = 0; year < rows.length; year++) {
            x.feed(0, 2, rows[year][0], year, 0);
        }
        x.solve();
        for (int year = 0; year < rows.length; year++) {
            DUE.counted(x, 2, year, rows[year][1], rows[year][2]);
        }
    }

    private static void countedOfMetals() {
        DUE.about("the terms: of kind 3, country 0, and the year's metals");
        RateChains x = Edges.withPlants(1);
        x.average(0, 1, 2);
        for (int kind = 0; kind < 4; kind++) {
            x.feed(0, kind, 3, 1, 0);
        }
        x.metals(1, 4);
        x.solve();
        for (int kind = 0; kind < 3; kind++) {
            DUE.counted(x, kind, 1, 3, 2);
        }
        DUE.counted(x, 3, 1, 11, 2);
        DUE.counted(x, 3, 0, 0, 1);
        DUE.counted(x, 3, 2, 0, 1);
    }

    private static void countedOfAllCountries() {
        DUE.about("the terms: without a country, of all countries together");
        RateChains x = Edges.withPlants(1);
        x.average(0, 1, 2);
        for (int country = 0; country < 4; country++) {
            x.feed(0, 1, 1, 0, country);
        }
        x.solve();
        DUE.counted(x, 1, 0, 2, 1);
        for (int country = 0; country < 4; country++) {
            DUE.same("no whole gram of country " + country, x.left(country, 1, 0), 0);
        }
    }

    private static void countedByRings() {
        DUE.about("the terms: the worth, in rings, too");
        RateChains x = Edges.withPlants(3);
        x.share(0, 0, 9, 10);
        x.share(0, 1, 1, 10);
        x.point(1, 0);
        x.feed(0, 0, 7, 0, 0);
        x.solve();
        DUE.counted(x, 0, 0, 7, 1);
        x.share(0, 0, 4, 5);
        x.solve();
        DUE.counted(x, 0, 0, 7, 2);
        x.share(0, 0, 7, 10);
        x.solve();
        DUE.counted(x, 0, 0, 7, 3);
        x.share(0, 0, 3, 10);
        x.solve();
        DUE.counted(x, 0, 0, 1, 1);
        x.share(0, 2, 3, 5);
        x.share(2, 0, 1, 1);
        x.solve();
        DUE.counted(x, 0, 0, 7, 1);
    }

    private static void countedMost() {
        DUE.about("10: sixty feeds of the most grams, and metals");
        RateChains x = Edges.withPointOf(3);
        for (int row = 0; row < 60; row++) {
            x.feed(0, 3, MOST_GRAMS, 9, row % 4);
        }
        x.metals(9, MOST_GRAMS);
        x.solve();
        DUE.counted(x, 3, 9, 61 * MOST_GRAMS, 1);
    }

    private static void countedAsItWasThen() {
        DUE.about("the terms: solved with all as it was then");
        RateChains x = Edges.withPlants(2);
        x.average(0, 1, 5);
        x.feed(0, 3, 5, 0, 0);
        x.metals(0, 1);
        x.solve();
        x.average(0, 1, 2);
        DUE.counted(x, 3, 0, 5, 1);
        x.point(0, 3);
        DUE.counted(x, 3, 0, 5, 1);
        x.share(0, 1, 1, 1);
        DUE.counted(x, 3, 0, 5, 1);
        x.metals(0, 2);
        DUE.counted(x, 3, 0, 5, 1);
        x.feed(0, 3, 5, 0, 0);
        DUE.counted(x, 3, 0, 5, 1);
        x.plant();
        DUE.counted(x, 3, 0, 5, 1);
        x.solve();
        DUE.counted(x, 3, 0, 12, 1);
    }

    private static void rateOfNoneSuch() {
        DUE.about("11: NONE as for counted(), when there are none such");
        RateChains x = solvedWithOneGram();
        DUE.rate(x, 0, 0, 1, 1);
        DUE.rate(x, 3, 9, 0, 1);
        for (int part = 0; part < 2; part++) {
            for (int no : Edges.NO_KINDS) {
                DUE.same("kind " + no, x.rate(no, 0, part), -1);
            }
            for (int no : Edges.NO_YEARS) {
                DUE.same("year " + no, x.rate(0, no, part), -1);
            }
        }
        for (int no : Edges.NO_PARTS) {
            DUE.same("part " + no, x.rate(0, 0, no), -1);
            DUE.same("part " + no + ", nothing placed", x.rate(0, 5, no), -1);
        }
    }

    private static void rateOfNothingSolved() {
        DUE.about("11: NONE as for counted(), when nothing was solved");
        RateChains x = Edges.withPointOf(0);
        x.feed(0, 0, 1, 0, 0);
        x.placed(0, 0, 5);
        for (int part = 0; part < 2; part++) {
            DUE.same("placed", x.rate(0, 0, part), -1);
            DUE.same("not placed", x.rate(0, 1, part), -1);
        }
        x.solve();
        DUE.rate(x, 0, 0, 1, 5);
    }

    private static void rateOfNothingPlaced() {
        DUE.about("11: 0 for both parts when nothing was placed");
        RateChains x = Edges.withPointOf(0);
        x.feed(0, 0, 6, 0, 0);
        x.solve();
        DUE.rate(x, 0, 0, 0, 0);
        DUE.rate(x, 0, 1, 0, 0);
        x.placed(0, 0, 3);
        DUE.rate(x, 0, 0, 2, 1);
        x.placed(0, 0, 0);
        DUE.rate(x, 0, 0, 0, 0);
    }

    private static void rateOfNothingCounted() {
        DUE.about("11: nothing over what was placed is 0 over 1");
        RateChains x = new RateChains();
        x.placed(2, 4, 77);
        x.solve();
        DUE.rate(x, 2, 4, 0, 1);
    }

    private static void rateAsPlacedNow() {
        DUE.about("11: over what was placed (as it is now)");
        RateChains x = Edges.withPointOf(0);
        x.feed(0, 0, 6, 0, 0);
        x.placed(0, 0, 12);
        x.solve();
        DUE.rate(x, 0, 0, 1, 2);
        x.placed(0, 0, 18);
        DUE.rate(x, 0, 0, 1, 3);
        x.feed(0, 0, 6, 0, 0);
        DUE.rate(x, 0, 0, 1, 3);
        x.solve();
        DUE.rate(x, 0, 0, 2, 3);
    }

    private static void rateOfCountryZero() {
        DUE.about("11: of country 0");
        RateChains x = Edges.withPointOf(3);
        for (int country = 0; country < 4; country++) {
            x.feed(0, 3, country == 0 ? 1 : 100, 0, country);
        }
        x.metals(0, 2);
        x.placed(3, 0, 5);
        x.solve();
        DUE.rate(x, 3, 0, 3, 5);
        DUE.counted(x, 3, 0, 303, 1);
        x.claim(0, 3, 0, 2);
        DUE.rate(x, 3, 0, 3, 5);
    }

    private static void rateAboveOne() {
        DUE.about("11: a rate may be 1, or more");
        RateChains x = Edges.withPointOf(0);
        x.feed(0, 0, 10, 0, 0);
        x.solve();
        x.placed(0, 0, 10);
        DUE.rate(x, 0, 0, 1, 1);
        x.placed(0, 0, 4);
        DUE.rate(x, 0, 0, 5, 2);
    }

    private static void rateMost() {
        DUE.about("11: the greatest numbers");
        RateChains x = Edges.withPointOf(3);
        for (int row = 0; row < 60; row++) {
            x.feed(0, 3, MOST_GRAMS, 9, 0);
        }
        x.metals(9, MOST_GRAMS - 1);
        x.solve();
        x.placed(3, 9, 1);
        DUE.rate(x, 3, 9, 61 * MOST_GRAMS - 1, 1);
        x.placed(3, 9, 100 * MOST_GRAMS);
        DUE.rate(x, 3, 9, 61 * MOST_GRAMS - 1, 100 * MOST_GRAMS);
    }

    private static void twiceOfNoneSuch() {
        DUE.about("12: NONE when there is none such");
        RateChains x = Edges.withPlants(3);
        DUE.same("none at all", x.twice(0), -1);
        x.point(0, 0);
        DUE.same("a point alone", x.twice(0), -1);
        x.average(1, 1, 2);
        DUE.same("an average of another plant", x.twice(0), -1);
        x.average(0, 1, 2);
        DUE.same("the first", x.twice(0), 0);
        int[] none = {-1, 1, 2, 20, Integer.MIN_VALUE, Integer.MAX_VALUE};
        for (int k : none) {
            DUE.same("twice(" + k + ")", x.twice(k), -1);
        }
    }

    private static void twiceByNumbers() {
        DUE.about("12: 4 times the plant and the kind, by these numbers");
        RateChains x = Edges.withPlants(5);
        int[] slots = {19, 3, 16, 0, 8};
        for (int slot : slots) {
            x.average(slot / 4, 1, 10);
            x.point(slot / 4, slot % 4);
        }
        int[] sorted = {0, 3, 8, 16, 19};
        for (int k = 0; k < sorted.length; k++) {
            DUE.same("twice(" + k + ")", x.twice(k), sorted[k]);
        }
        DUE.same("behind them", x.twice(5), -1);
    }

    private static void twiceAsThingsAre() {
        DUE.about("12: as things are");
        RateChains x = Edges.withPlants(2);
        x.point(1, 1);
        x.solve();
        x.average(1, 0, 1);
        DUE.same("an average of 0, not solved yet", x.twice(0), 5);
        x.share(1, 1, 1, 1);
        x.solve();
        DUE.same("it does not stand", x.twice(0), 5);
        DUE.no("the average stays", x.average(1, 2, 1));
        DUE.same("one that was refused", x.twice(0), 5);
        x.average(1, 1, 1);
        DUE.same("an average of 1", x.twice(0), 5);
        DUE.same("that one alone", x.twice(1), -1);
        x.plant();
        x.point(2, 3);
        x.average(2, 1, 2);
        DUE.same("of a plant added since", x.twice(1), 11);
    }

    private static void twiceOfAll() {
        DUE.about("12: twenty of them");
        RateChains x = Edges.withPlants(5);
        for (int slot = 19; slot >= 0; slot--) {
            x.point(slot / 4, slot % 4);
            x.average(slot / 4, slot % 2, 2);
        }
        for (int k = 0; k < 20; k++) {
            DUE.same("twice(" + k + ")", x.twice(k), k);
        }
        DUE.same("twice(20)", x.twice(20), -1);
    }

    private static void toldOfNoneSuch() {
        DUE.about("13: NONE when there is none such");
        RateChains x = Edges.withPlants(5);
        for (int plant = 0; plant < 5; plant++) {
            DUE.same("nothing was solved", x.told(plant), -1);
            x.feed(plant, plant % 4, 1, 0, 0);
        }
        DUE.same("nothing was solved yet", x.told(0), -1);
        x.solve();
        for (int plant = 0; plant < 5; plant++) {
            DUE.same("told(" + plant + ")", x.told(plant), plant);
        }
        int[] none = {-1, 5, 6, Integer.MIN_VALUE, Integer.MAX_VALUE};
        for (int k : none) {
            DUE.same("told(" + k + ")", x.told(k), -1);
        }
    }

    private static void toldOfNothingAlone() {
        DUE.about("13: something (not 0 grams alone)");
        RateChains x = Edges.withPlants(2);
        x.share(0, 1, 1, 2);
        x.feed(0, 0, 0, 0, 0);
        x.feed(1, 0, 0, 1, 0);
        x.feed(1, 1, 0, 2, 0);
        x.solve();
        DUE.same("0 grams alone", x.told(0), -1);
        x.feed(1, 1, 1, 2, 0);
        x.feed(1, 1, 0, 2, 0);
        x.solve();
        DUE.same("1 gram, too", x.told(0), 1);
    }

    private static void toldOfWhatGoesOn() {
        DUE.about("13: what goes on to a plant comes into it");
        RateChains x = Edges.withPlants(5);
        x.share(4, 3, 1, 10);
        x.share(3, 1, 1, 10);
        x.share(1, 0, 1, 10);
        x.feed(4, 0, 1, 0, 0);
        x.solve();
        DUE.same("three plants on", x.told(0), 0);
        DUE.same("no other one", x.told(1), -1);
        x.point(3, 0);
        x.solve();
        DUE.same("a point lets nothing on", x.told(0), -1);
        x.feed(4, 1, 1, 0, 0);
        x.solve();
        DUE.same("of another kind it goes on", x.told(0), 0);
        x.share(1, 0, 0, 1);
        x.solve();
        DUE.same("now 1 is the bare one", x.told(0), 1);
    }

    private static void toldOfTheLongestWays() {
        DUE.about("13: what comes into a plant by way of all others");
        RateChains up = Edges.withPlants(5);
        RateChains down = Edges.withPlants(5);
        for (int plant = 0; plant < 4; plant++) {
            up.share(plant, plant + 1, 1, 10);
            down.share(plant + 1, plant, 1, 10);
        }
        up.feed(0, 2, 1, 0, 0);
        down.feed(4, 2, 1, 0, 0);
        up.solve();
        down.solve();
        DUE.same("from 0 to 4", up.told(0), 4);
        DUE.same("no other one", up.told(1), -1);
        DUE.same("from 4 to 0", down.told(0), 0);
        DUE.same("no other one", down.told(1), -1);
    }

    private static void toldOfBareOnly() {
        DUE.about("13: of a kind for which it was bare");
        RateChains x = Edges.withPlants(4);
        x.point(0, 0);
        x.average(1, 1, 1);
        x.share(2, 0, 1, 10);
        for (int plant = 0; plant < 4; plant++) {
            x.feed(plant, 0, 1, 0, 0);
        }
        x.solve();
        DUE.same("3 alone", x.told(0), 3);
        DUE.same("no other one", x.told(1), -1);
        x.feed(0, 3, 1, 0, 0);
        x.solve();
        DUE.same("0, of kind 3", x.told(0), 0);
        DUE.same("and 3", x.told(1), 3);
    }

    private static void toldOnceAPlant() {
        DUE.about("13: the k-th plant, each told once");
        RateChains x = Edges.withPlants(2);
        for (int kind = 0; kind < 4; kind++) {
            x.feed(1, kind, 1, 0, 0);
            x.feed(1, kind, 1, 1, 1);
        }
        x.solve();
        DUE.same("1", x.told(0), 1);
        DUE.same("once", x.told(1), -1);
    }

    private static void toldAsItWasSolved() {
        DUE.about("13: as it was solved");
        RateChains x = Edges.withPlants(2);
        x.feed(1, 0, 1, 0, 0);
        x.solve();
        x.point(1, 0);
        x.feed(0, 0, 1, 0, 0);
        DUE.same("as it was", x.told(0), 1);
        DUE.same("no other one", x.told(1), -1);
        x.solve();
        DUE.same("as it is now", x.told(0), 0);
        DUE.same("no other one now", x.told(1), -1);
    }

    private static void onceOfNothingSolved() {
        DUE.about("14: true as long as nothing was");
        RateChains x = new RateChains();
        DUE.yes("new", x.once());
        x.plant();
        x.point(0, 0);
        x.feed(0, 0, 5, 0, 0);
        x.metals(0, 5);
        DUE.yes("fed", x.once());
        x.plant();
        x.share(1, 1, 1, 1);
        x.solve();
        DUE.yes("it did not stand", x.once());
    }

    private static void onceWhenAllCounts() {
        DUE.about("14: no more is counted than was fed, and metals");
        RateChains x = Edges.withPlants(2);
        x.solve();
        DUE.yes("nothing was fed", x.once());
        x.metals(0, MOST_GRAMS);
        x.solve();
        DUE.yes("metals alone", x.once());
        x.share(0, 0, 9, 10);
        x.share(0, 1, 1, 10);
        x.average(1, 0, 1);
        for (int kind = 0; kind < 4; kind++) {
            x.feed(0, kind, MOST_GRAMS, 9, 3);
            x.feed(1, kind, MOST_GRAMS, 9, 3);
        }
        x.solve();
        DUE.counted(x, 0, 9, 2 * MOST_GRAMS, 1);
        DUE.yes("just as much", x.once());
    }

    private static void claimOfNoneSuch() {
        DUE.about("15: NONE when there are none such");
        RateChains x = solvedWithOneGram();
        for (int no : Edges.NO_COUNTRIES) {
            DUE.same("country " + no, x.claim(no, 0, 0, 1), -1);
        }
        for (int no : Edges.NO_KINDS) {
            DUE.same("kind " + no, x.claim(0, no, 0, 1), -1);
        }
        for (int no : Edges.NO_YEARS) {
            DUE.same("year " + no, x.claim(0, 0, no, 1), -1);
            DUE.same("year " + no + " of country 3", x.claim(3, 3, no, 1), -1);
        }
        DUE.same("year 11, whose years before are there", x.claim(3, 3, 11, 1), -1);
        DUE.same("the first", x.claim(0, 0, 0, 1), 0);
        DUE.same("the last", x.claim(3, 3, 9, 1), 0);
    }

    private static void claimTooSmallOrLarge() {
        DUE.about("15: some grams, 1 .. 1000000000000");
        RateChains x = Edges.withPointOf(0);
        x.feed(0, 0, 5, 0, 0);
        x.solve();
        long[] none = {0, -1, -5, Long.MIN_VALUE, MOST_CLAIMED, MOST_CLAIMED + 1, Long.MAX_VALUE, (1L << 32) + 1};
        for (long grams : none) {
            DUE.same("claim of " + grams, x.claim(0, 0, 0, grams), -1);
            DUE.same("nothing is taken", x.left(0, 0, 0), 5);
        }
        DUE.same("claim of 1", x.claim(0, 0, 0, 1), 4);
        DUE.same("claim of 0 where nothing is", x.claim(0, 0, 9, 0), -1);
    }

    private static void claimOfNothingSolved() {
        DUE.about("15: nothing was solved");
        RateChains x = Edges.withPointOf(3);
        x.feed(0, 3, 5, 0, 0);
        x.metals(0, 5);
        DUE.same("claim", x.claim(0, 3, 0, 1), -1);
        x.solve();
        DUE.same("nothing was taken", x.left(0, 3, 0), 10);
        DUE.same("claim", x.claim(0, 3, 0, 1), 9);
    }

    private static void claimOfAllAndOneMore() {
        DUE.about("15: or they are together less (nothing is taken then)");
        RateChains x = Edges.withPointOf(0);
        for (int year = 4; year < 7; year++) {
            x.feed(0, 0, 10, year, 0);
        }
        x.solve();
        DUE.same("one more than all", x.claim(0, 0, 6, 31), -1);
        for (int year = 4; year < 7; year++) {
            DUE.same("year " + year, x.left(0, 0, year), 10);
        }
        DUE.same("all", x.claim(0, 0, 6, 30), 0);
        for (int year = 4; year < 7; year++) {
            DUE.same("year " + year + " is taken", x.left(0, 0, year), 0);
        }
        DUE.same("one more", x.claim(0, 0, 6, 1), -1);
    }

    private static void claimOldestFirst() {
        DUE.about("15 and the terms: of the two years before it and of its own, the oldest first");
        long[][] rows = {{1, 9, 10, 10}, {10, 0, 10, 10}, {11, 0, 9, 10}, {20, 0, 0, 10}, {21, 0, 0, 9}, {30, 0, 0, 0}};
        for (long[] row : rows) {
            RateChains x = Edges.withPointOf(2);
            for (int year = 0; year < 10; year++) {
                x.feed(0, 2, 10, year, 1);
            }
            x.solve();
            DUE.same("claim of " + row[0], x.claim(1, 2, 5, row[0]), 30 - row[0]);
            DUE.same("year 2", x.left(1, 2, 2), 10);
            DUE.same("year 3", x.left(1, 2, 3), row[1]);
            DUE.same("year 4", x.left(1, 2, 4), row[2]);
            DUE.same("year 5", x.left(1, 2, 5), row[3]);
            DUE.same("year 6", x.left(1, 2, 6), 10);
        }
    }

    private static void claimOfFirstYears() {
        DUE.about("15: years 0 and 1 have fewer years before them");
        RateChains x = Edges.withPointOf(0);
        for (int year = 0; year < 10; year++) {
            x.feed(0, 0, 10, year, 0);
        }
        x.solve();
        DUE.same("year 0 is alone", x.claim(0, 0, 0, 11), -1);
        DUE.same("of year 0", x.claim(0, 0, 0, 4), 6);
        DUE.same("year 1 has one before it", x.claim(0, 0, 1, 17), -1);
        DUE.same("of years 0 and 1", x.claim(0, 0, 1, 7), 9);
        DUE.same("year 0", x.left(0, 0, 0), 0);
        DUE.same("year 1", x.left(0, 0, 1), 9);
        DUE.same("year 2", x.left(0, 0, 2), 10);
        DUE.same("year 8", x.left(0, 0, 8), 10);
        DUE.same("year 9", x.left(0, 0, 9), 10);
        DUE.same("year 2 has two", x.claim(0, 0, 2, 19), 0);
    }

    private static void claimOfLastYears() {
        DUE.about("15: year 9, and what is too old or too young");
        RateChains x = Edges.withPointOf(0);
        x.feed(0, 0, 10, 6, 0);
        x.feed(0, 0, 10, 7, 0);
        x.solve();
        DUE.same("6 is too old for 9", x.claim(0, 0, 9, 11), -1);
        DUE.same("7 is not", x.claim(0, 0, 9, 10), 0);
        DUE.same("7 is too young for 6", x.claim(0, 0, 6, 1), 9);
        DUE.same("6 is too young for 5", x.claim(0, 0, 5, 1), -1);
        DUE.same("6 is not too old for 8", x.claim(0, 0, 8, 1), 8);
    }

    private static void claimOfOwnStocks() {
        DUE.about("15: a country's own stocks of the kind");
        RateChains x = Edges.withPlants(1);
        for (int kind = 0; kind < 4; kind++) {
            x.point(0, kind);
            for (int country = 0; country < 4; country++) {
                x.feed(0, kind, 10, 3, country);
            }
        }
        x.solve();
        DUE.same("claim", x.claim(2, 1, 4, 10), 0);
        for (int kind = 0; kind < 4; kind++) {
            for (int country = 0; country < 4; country++) {
                boolean taken = country == 2 && kind == 1;
                DUE.same("country " + country + ", kind " + kind, x.left(country, kind, 3), taken ? 0 : 10);
            }
        }
        DUE.counted(x, 1, 3, 40, 1);
    }

    private static void claimOfWholeGrams() {
        DUE.about("15 and the terms: each year's stock is of whole grams, down");
        RateChains x = Edges.withPlants(1);
        x.average(0, 1, 10);
        for (int year = 0; year < 3; year++) {
            x.feed(0, 0, 1, year, 0);
        }
        x.feed(0, 0, 1, 4, 0);
        x.feed(0, 0, 1, 4, 0);
        x.solve();
        DUE.same("three times 9/10 are none", x.claim(0, 0, 2, 1), -1);
        DUE.same("9/10 and 9/10 of one year are 1", x.claim(0, 0, 4, 2), -1);
        DUE.same("1", x.claim(0, 0, 4, 1), 0);
    }

    private static void claimMost() {
        DUE.about("15: as much as three stocks can hold");
        RateChains x = Edges.withPointOf(3);
        for (int row = 0; row < 60; row++) {
            x.feed(0, 3, MOST_GRAMS, row % 3, 0);
        }
        for (int year = 0; year < 3; year++) {
            x.metals(year, MOST_GRAMS);
        }
        x.solve();
        DUE.same("one more", x.claim(0, 3, 2, 63 * MOST_GRAMS + 1), -1);
        DUE.same("all but one", x.claim(0, 3, 2, 63 * MOST_GRAMS - 1), 1);
        DUE.same("of year 2", x.left(0, 3, 2), 1);
        DUE.same("the last one", x.claim(0, 3, 2, 1), 0);
    }

    private static void claimsForgotten() {
        DUE.about("the terms: claims that were made are forgotten by that");
        RateChains x = Edges.withPlants(2);
        x.point(0, 0);
        x.feed(0, 0, 10, 0, 0);
        x.solve();
        x.claim(0, 0, 0, 7);
        x.share(1, 1, 1, 1);
        DUE.same("it does not stand", x.solve(), 2);
        DUE.same("they are not forgotten", x.left(0, 0, 0), 3);
        x.share(1, 1, 1, 2);
        DUE.same("it stands", x.solve(), 0);
        DUE.same("they are", x.left(0, 0, 0), 10);
        DUE.same("all can be claimed", x.claim(0, 0, 2, 10), 0);
        DUE.same("solved again, nothing changed", x.solve(), 0);
        DUE.same("all can be claimed again", x.claim(0, 0, 2, 10), 0);
    }

    private static void leftOfNoneSuch() {
        DUE.about("16: NONE when there are none such");
        RateChains x = solvedWithOneGram();
        for (int no : Edges.NO_COUNTRIES) {
            DUE.same("country " + no, x.left(no, 0, 0), -1);
        }
        for (int no : Edges.NO_KINDS) {
            DUE.same("kind " + no, x.left(0, no, 0), -1);
        }
        for (int no : Edges.NO_YEARS) {
            DUE.same("year " + no, x.left(0, 0, no), -1);
        }
        DUE.same("the first", x.left(0, 0, 0), 1);
        DUE.same("the last", x.left(3, 3, 9), 1);
    }

    private static void leftOfNothingSolved() {
        DUE.about("16: or nothing was solved");
        RateChains x = Edges.withPointOf(0);
        x.feed(0, 0, 5, 0, 0);
        DUE.same("left", x.left(0, 0, 0), -1);
        x.solve();
        DUE.same("left, solved", x.left(0, 0, 0), 5);
    }

    private static void leftDown() {
        DUE.about("16 and the terms: the whole grams, down");
        RateChains x = Edges.withPlants(1);
        x.average(0, 1, 10);
        long[][] rows = {{0, 0}, {1, 0}, {2, 1}, {9, 8}, {10, 9}, {11, 9}, {12, 10}};
        for (int year = 0; year < rows.length; year++) {
            x.feed(0, 1, rows[year][0], year, 3);
        }
        x.solve();
        for (int year = 0; year < rows.length; year++) {
            DUE.same("9/10 of " + rows[year][0], x.left(3, 1, year), rows[year][1]);
        }
    }

    private static void leftOfNothing() {
        DUE.about("16: a stock of 0 is 0, not NONE");
        RateChains x = new RateChains();
        x.solve();
        for (int country = 0; country < 4; country++) {
            for (int kind = 0; kind < 4; kind++) {
                for (int year = 0; year < 10; year++) {
                    DUE.same("left", x.left(country, kind, year), 0);
                }
            }
        }
    }

    private static void leftOfMetalsAlone() {
        DUE.about("16: metals are a stock, though of all that comes into plants nothing counts");
        RateChains x = Edges.withPlants(5);
        for (int plant = 0; plant < 5; plant++) {
            x.share(plant, plant, 9, 10);
            x.feed(plant, 3, 10, 6, 0);
        }
        x.metals(6, 7);
        x.solve();
        DUE.counted(x, 3, 6, 7, 1);
        DUE.same("left", x.left(0, 3, 6), 7);
        DUE.same("claim", x.claim(0, 3, 8, 6), 1);
    }

    private static void openOfNoneSuch() {
        DUE.about("17: 0 for both parts when there are none such");
        RateChains x = solvedWithOneGram();
        DUE.open(x, 1, 9, 3, 1, 1);
        int[] noSlots = {-1, -2, -3, -4, 4, 5, 20, Integer.MIN_VALUE, Integer.MAX_VALUE};
        for (int k : noSlots) {
            DUE.open(x, 1, 9, k, 0, 0);
        }
        for (int no : Edges.NO_YEARS) {
            DUE.open(x, no, 9, 3, 0, 0);
            DUE.open(x, 1, no, 3, 0, 0);
            DUE.open(x, no, no, 3, 0, 0);
        }
        for (int no : Edges.NO_PARTS) {
            DUE.same("part " + no, x.open(1, 9, 3, no), 0);
        }
        RateChains full = Edges.withPlants(5);
        full.solve();
        DUE.open(full, 0, 1, 19, 0, 1);
        DUE.open(full, 0, 1, 20, 0, 0);
    }

    private static void openOfNothingSolved() {
        DUE.about("17: or nothing was solved");
        RateChains x = Edges.withPointOf(0);
        x.feed(0, 0, 5, 1, 0);
        DUE.open(x, 0, 1, 0, 0, 0);
        DUE.open(x, 0, 0, 0, 0, 0);
        x.solve();
        DUE.open(x, 0, 1, 0, 5, 1);
    }

    private static void openBelowZero() {
        DUE.about("17: it may be below 0, part 0 above, 1 below");
        RateChains x = Edges.withPlants(1);
        x.average(0, 1, 10);
        x.feed(0, 0, 5, 1, 0);
        x.feed(0, 0, 6, 2, 0);
        x.solve();
        DUE.open(x, 1, 2, 0, 9, 10);
        DUE.open(x, 2, 1, 0, -9, 10);
        DUE.open(x, 1, 1, 0, 0, 1);
        DUE.open(x, 1, 0, 0, -9, 2);
        DUE.open(x, 0, 9, 0, 0, 1);
        DUE.open(x, 9, 0, 0, 0, 1);
    }

    private static void openOfPlantsAddedSince() {
        DUE.about("17: plants as they are now; one added since has 0 over 1");
        RateChains x = Edges.withPlants(3);
        x.solve();
        DUE.open(x, 0, 1, 11, 0, 1);
        for (int kind = 0; kind < 4; kind++) {
            DUE.open(x, 0, 1, 12 + kind, 0, 0);
        }
        x.plant();
        x.point(3, 0);
        x.feed(3, 0, 5, 1, 0);
        for (int kind = 0; kind < 4; kind++) {
            DUE.open(x, 0, 1, 12 + kind, 0, 1);
            DUE.open(x, 0, 1, 16 + kind, 0, 0);
        }
        x.solve();
        DUE.open(x, 0, 1, 12, 5, 1);
    }

    private static void openOfAllCountriesWithoutMetals() {
        DUE.about("17: the plant's feeds of the kind (of all countries)");
        RateChains x = Edges.withPlants(2);
        x.point(0, 3);
        x.point(1, 3);
        for (int country = 0; country < 4; country++) {
            x.feed(0, 3, 1, 5, country);
        }
        x.feed(1, 3, 100, 5, 0);
        x.feed(0, 2, 100, 5, 0);
        x.metals(5, 1000);
        x.solve();
        DUE.open(x, 4, 5, 3, 4, 1);
        DUE.open(x, 4, 5, 7, 100, 1);
        DUE.open(x, 4, 5, 2, 0, 1);
    }

    private static void openAsItWasSolved() {
        DUE.about("17: as it was solved");
        RateChains x = Edges.withPlants(2);
        x.share(0, 1, 1, 2);
        x.average(1, 1, 5);
        x.feed(0, 0, 10, 5, 0);
        x.solve();
        DUE.open(x, 4, 5, 0, 4, 1);
        x.feed(0, 0, 10, 5, 0);
        x.share(0, 1, 1, 1);
        x.average(1, 0, 1);
        x.claim(0, 0, 5, 3);
        DUE.open(x, 4, 5, 0, 4, 1);
        DUE.open(x, 4, 5, 4, 0, 1);
        x.share(0, 0, 0, 1);
        x.solve();
        DUE.open(x, 4, 5, 0, 20, 1);
    }

    private static void openMost() {
        DUE.about("17: the greatest numbers");
        RateChains x = Edges.withPlants(5);
        for (int plant = 0; plant < 4; plant++) {
            x.share(plant, plant + 1, 7, 10);
        }
        x.average(4, 3, 10);
        for (int row = 0; row < 59; row++) {
            x.feed(0, 3, MOST_GRAMS, 0, row % 4);
        }
        x.feed(0, 3, MOST_GRAMS - 1, 0, 0);
        x.solve();
        DUE.open(x, 1, 0, 3, (60 * MOST_GRAMS - 1) * 16807, 100000);
        DUE.open(x, 0, 1, 3, -(60 * MOST_GRAMS - 1) * 16807, 100000);
    }
}
