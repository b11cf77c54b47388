/** What the tests share: numbers just outside what the document names, and objects to begin with. */
final class Edges {
    static final int[] NO_PLANTS = {-1, 5, 6, Integer.MIN_VALUE, Integer.MAX_VALUE};
    static final int[] NO_KINDS = {-1, 4, Integer.MIN_VALUE, Integer.MAX_VALUE};
    static final int[] NO_YEARS = {-1, 10, Integer.MIN_VALUE, Integer.MAX_VALUE};
    static final int[] NO_COUNTRIES = NO_KINDS;
    static final int[] NO_PARTS = {-1, 2, Integer.MIN_VALUE, Integer.MAX_VALUE};
    static final long[] BELOWS = {1, 2, 5, 10};

    private Edges() {
    }

    static RateChains withPlants(int count) {
        RateChains x = new RateChains();
        for (int i = 0; i < count; i++) {
            x.plant();
        }
        return x;
    }

    /** One plant, the point of a kind, so that what is fed there counts as it is. */
    static RateChains withPointOf(int kind) {
        RateChains x = withPlants(1);
        x.point(0, kind);
        return x;
    }

    static boolean isFraction(long above, long below) {
        boolean isBelow = below == 1 || below == 2 || below == 5 || below == 10;
        return isBelow && above >= 0 && above <= below;
    }
}
