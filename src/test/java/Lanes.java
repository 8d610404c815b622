/** What the tests by promise do again and again. */
final class Lanes {
    static final int NONE = SlideFold.NONE;
    static final int NOTHING = SlideFold.NOTHING;
    static final int HAND = 0;
    static final int COUNT = 1;
    static final int TIME = 2;
    /** Numbers that are no lane, event, what .. */
    static final int[] FAR = {-1, Integer.MIN_VALUE, Integer.MAX_VALUE, 1000000000};

    private Lanes() {
    }

    /** Lane 0 by hand, with these values at the times 0, 1, .. */
    static SlideFold of(int operation, int... values) {
        SlideFold x = new SlideFold();
        x.open(0, operation, HAND, 0, 0);
        add(x, 0, values);
        return x;
    }

    /** Adds these values to a lane at the times behind its newest one. */
    static void add(SlideFold x, int lane, int... values) {
        for (int value : values) {
            x.come(lane, x.lane(lane, 5) + 1, value);
        }
    }

    /** Lane 0 by hand, with a time and a value by turns. */
    static SlideFold timed(int operation, int slack, int... timesAndValues) {
        SlideFold x = new SlideFold();
        x.open(0, operation, HAND, 0, slack);
        addTimed(x, 0, timesAndValues);
        return x;
    }

    static void addTimed(SlideFold x, int lane, int... timesAndValues) {
        for (int i = 0; i + 1 < timesAndValues.length; i += 2) {
            x.come(lane, timesAndValues[i], timesAndValues[i + 1]);
        }
    }

    static long[] values(SlideFold x, int lane) {
        return told(x, lane, 1);
    }

    static long[] times(SlideFold x, int lane) {
        return told(x, lane, 0);
    }

    static long[] told(SlideFold x, int lane, int what) {
        long[] all = new long[Math.max(0, x.lane(lane, 4))];
        for (int i = 0; i < all.length; i++) {
            all[i] = x.event(lane, i, what);
        }
        return all;
    }

    /** What state() tells, 0 .. 6. */
    static long[] state(SlideFold x, int lane) {
        long[] all = new long[7];
        for (int i = 0; i < all.length; i++) {
            all[i] = x.state(lane, i);
        }
        return all;
    }

    /** What lane() tells, 0 .. 10. */
    static long[] lane(SlideFold x, int lane) {
        long[] all = new long[11];
        for (int i = 0; i < all.length; i++) {
            all[i] = x.lane(lane, i);
        }
        return all;
    }

    /** The first so many numbers of a lane. */
    static long[] totals(SlideFold x, int lane, int many) {
        long[] all = new long[many];
        for (int i = 0; i < all.length; i++) {
            all[i] = x.total(lane, i);
        }
        return all;
    }
}
