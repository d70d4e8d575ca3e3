/** Short ways to make the objects that the tests look at. */
final class Build {
    private Build() {
    }

    /** A low and a high for each name. */
    static LinearReach names(int... bounds) {
        LinearReach x = new LinearReach();
        for (int i = 0; i < bounds.length; i += 2) {
            x.name(bounds[i], bounds[i + 1]);
        }
        return x;
    }

    static LinearReach alike(int count, int low, int high) {
        LinearReach x = new LinearReach();
        for (int i = 0; i < count; i++) {
            x.name(low, high);
        }
        return x;
    }

    static void factors(LinearReach x, int row, int... factors) {
        for (int name = 0; name < factors.length; name++) {
            if (factors[name] != 0) {
                x.factor(row, name, factors[name]);
            }
        }
    }

    /** One more row of a kind without a. */
    static int sum(LinearReach x, int kind, int right, int... factors) {
        int row = x.row(kind, 0, 0, 0, right);
        factors(x, row, factors);
        return row;
    }

    /** One more row of a kind with a and factors. */
    static int tied(LinearReach x, int kind, int a, int right, int... factors) {
        int row = x.row(kind, a, 0, 0, right);
        factors(x, row, factors);
        return row;
    }

    /** Name 0 has 0 .. 3, and row 0 wants it to be at most -1: a run takes all of it. */
    static LinearReach clashing() {
        LinearReach x = names(0, 3);
        sum(x, 0, -1, 1);
        return x;
    }

    /** Names 0 to 2 with 0 .. 7: each is at most the next one, by rows 0 and 1; the last is at most 5. */
    static LinearReach chain() {
        LinearReach x = alike(3, 0, 7);
        sum(x, 0, 0, 1, -1);
        sum(x, 0, 0, 0, 1, -1);
        sum(x, 0, 5, 0, 0, 1);
        return x;
    }

    /** The calls that slowRing() makes. */
    static final int CALLS_OF_SLOW_RING = 8 + 7 + 12;

    /** The steps of slowRing() when there is rest: 62 numbers of each name but the last. */
    static final int STEPS_OF_SLOW_RING = 7 * 62;

    /** The rounds of slowRing() from row 0 on, with the one that takes nothing. */
    static final int ROUNDS_OF_SLOW_RING = 374;

    /**
     * Name 6 is name 5 and 1 added; name 0 is the lesser one of name 6 and 30; names 1 to 5 are each at
     * least the one before. So a LEAST that is raised by 1 goes round and is raised by 1 again, up to 30;
     * from row 0 on it comes by one name in a round, but that names 6 and 0 share one: 6 rounds for once
     * round. It goes round 62 times, then name 6 follows in one round, and the last one takes nothing.
     */
    static LinearReach slowRing() {
        LinearReach x = new LinearReach();
        for (int i = 0; i < 6; i++) {
            x.name(-32, 30);
        }
        x.name(-31, 31);
        x.name(30, 30);
        sum(x, 1, 1, 0, 0, 0, 0, 0, -1, 1);
        for (int i = 5; i >= 1; i--) {
            int row = x.row(0, 0, 0, 0, 0);
            x.factor(row, i - 1, 1);
            x.factor(row, i, -1);
        }
        x.row(6, 0, 6, 7, 0);
        return x;
    }
}
