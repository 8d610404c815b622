/** The terms: each edge that they name, at it and one beyond it. */
public final class TermsTest {
    private static final int NONE = Lanes.NONE;
    private static final int NOTHING = Lanes.NOTHING;
    private static final int[] NUMBERS = {4, 2, 2, 4, 5, 4, 7, 5, 3, 1};
    private static final int RUN = 3;

    public static void main(String[] args) {
        fourLanes();
        timesAndValues();
        likeTimes();
        numbersThereAre();
        rests();
        restsOfLine();
        oneAlone();
        fullRows();
        tableAndLettersInUse();
        bySmallestAndLargestCount();
        bySmallestAndLargestTime();
        slack();
        newest();
        atMost120();
        moves();
        laidAnew();
        watchesOfOtherLanes();
        watchesToldWhenReached();
        boxes();
        linkedAndLinkedTo();
        gaps();
        heldWithin();
        lostThere();
        fullThere();
        Due.end("TermsTest");
    }

    /** 120 events of the same value, or as many as go in by threes of 40. */
    private static void fill(SlideFold x, int lane, int value) {
        for (int i = 0; i < 3; i++) {
            x.burst(lane, 40, value, 0);
        }
    }

    /** All lanes open by hand, with a slack of 1000. */
    private static SlideFold four(int operation) {
        SlideFold x = new SlideFold();
        for (int lane = 0; lane < 4; lane++) {
            x.open(lane, operation, Lanes.HAND, 0, 1000);
        }
        return x;
    }

    // ---- lanes and what they come to

    private static void fourLanes() {
        Due.promise(1);
        SlideFold x = new SlideFold();
        for (int lane = 0; lane < 4; lane++) {
            Due.is("none open at first", x.lane(lane, 0), NONE);
        }
        for (int lane = 0; lane < 4; lane++) {
            Due.is("lane " + lane, x.open(lane, RUN, Lanes.HAND, 0, 0), lane + 1);
        }
        Due.is("a fifth one", x.open(4, RUN, Lanes.HAND, 0, 0), NONE);
        Due.is("ahead of the first", x.open(-1, RUN, Lanes.HAND, 0, 0), NONE);
        Due.is("four", x.about(0), 4);
        for (int lane = 0; lane < 4; lane++) {
            Due.is("its own event", x.come(lane, lane, 10 + lane), 1);
        }
        for (int lane = 0; lane < 4; lane++) {
            Due.is("its own value", x.total(lane, 1), 10 + lane);
            Due.is("its own time", x.lane(lane, 5), lane);
        }
    }

    private static void timesAndValues() {
        Due.promise(8);
        SlideFold x = Lanes.timed(RUN, 10000);
        Due.is("the first time, the least value", x.come(0, 0, -1000), 1);
        Due.is("the greatest value", x.come(0, 0, 1000), 2);
        Due.is("one ahead of the first time", x.come(0, -1, 0), NONE);
        Due.is("less than the least value", x.come(0, 0, -1001), NONE);
        Due.is("more than the greatest value", x.come(0, 0, 1001), NONE);
        Due.is("one behind the last time", x.come(0, 100001, 0), NONE);
        Due.is("NEWEST stays", x.lane(0, 5), 0);
        Due.is("the last time", x.come(0, 100000, 0), 3);
        Due.are("values", Lanes.values(x, 0), -1000, 1000, 0);
        Due.are("times", Lanes.times(x, 0), 0, 0, 100000);
        Due.is("none was lost", x.lane(0, 6), 0);
    }

    private static void likeTimes() {
        Due.promise(8);
        SlideFold x = Lanes.timed(RUN, 10, 5, 1, 5, 2, 3, 3, 5, 4, 3, 5, 4, 6);
        Due.are("of like times: as they came", Lanes.values(x, 0), 3, 5, 6, 1, 2, 4);
        Due.are("times", Lanes.times(x, 0), 3, 3, 4, 5, 5, 5);
        Due.are("came ahead", Lanes.told(x, 0, 2), 2, 4, 5, 0, 1, 3);
        Due.is("ahead of the three newer ones alone", x.lane(0, 9), 3);
    }

    /** From what 0 to the last number of each operation, and none ahead of or behind these. */
    private static void numbersThereAre() {
        Due.promise(15);
        for (int operation = 0; operation < 10; operation++) {
            SlideFold x = Lanes.of(operation, 3, -2, 0);
            for (int what = 0; what < NUMBERS[operation]; what++) {
                Due.is(operation + ": there is " + what, x.total(0, what) != NOTHING, true);
                Due.is(operation + ": can be watched", x.watch(0, 0, what, 2000) != NONE, true);
            }
            Due.is(operation + ": one more", x.total(0, NUMBERS[operation]), NOTHING);
            Due.is(operation + ": one more", x.watch(0, 0, NUMBERS[operation], 0), NONE);
            Due.is(operation + ": one less", x.total(0, -1), NOTHING);
            Due.is(operation + ": one less", x.watch(0, 0, -1, 0), NONE);
        }
    }

    /** Mod is the rest that is 0 at least: the values from -9 to 9, and the least and the greatest. */
    private static void rests() {
        Due.promise(15);
        SlideFold x = new SlideFold();
        for (int letter = 0; letter < 8; letter++) {
            // state 0 to the letter's last digit by four, state 1 to the one ahead of it
            x.letter(letter, letter % 4 + 4 * (letter / 4));
        }
        for (int cell = 0; cell < 16; cell++) {
            x.table(cell, cell / 4);
        }
        x.open(0, 4, Lanes.COUNT, 1, 0);
        x.open(1, 9, Lanes.COUNT, 1, 0);
        for (int i = -10; i <= 10; i++) {
            int value = i == -10 ? -1000 : i == 10 ? 1000 : i;
            x.come(0, i + 10, value);
            x.come(1, i + 10, value);
            int letter = (value + 1000) % 8;
            Due.is("the letter of " + value, x.total(0, 0) + 4 * x.total(0, 1), letter);
            Due.is("the element of " + value, x.total(1, 0), letter % 4);
        }
    }

    private static void restsOfLine() {
        Due.promise(15);
        int[][] due = {
            {-1000, 994, 977}, {-998, 996, 991}, {-997, 0, 1}, {-996, 1, 8}, {-1, 996, 991}, {0, 0, 1}, {1, 1, 8},
            {996, 996, 991}, {997, 0, 1}, {998, 1, 8}, {1000, 3, 22},
        };
        for (int[] row : due) {
            Due.are("the line of " + row[0], Lanes.totals(Lanes.of(2, row[0]), 0, 2), row[1], row[2]);
        }
    }

    /** What one event comes to: the smallest that can be told of. */
    private static void oneAlone() {
        Due.promise(15);
        Due.are("greatest of 0", Lanes.totals(Lanes.of(0, 0), 0, 4), 0, 1, 0, 1);
        Due.are("share of -1000", Lanes.totals(Lanes.of(1, -1000), 0, 2), 1000, 1);
        Due.are("share of 1", Lanes.totals(Lanes.of(1, 1), 0, 2), 1, 1);
        Due.are("run of -1000", Lanes.totals(Lanes.of(3, -1000), 0, 4), -1000, -1000, -1000, -1000);
        Due.are("run of 0", Lanes.totals(Lanes.of(3, 0), 0, 4), 0, 0, 0, 0);
        Due.are("letters at first", Lanes.totals(Lanes.of(4, 7), 0, 5), 0, 1, 2, 3, 4);
        Due.are("0 opens", Lanes.totals(Lanes.of(5, 0), 0, 4), 0, 1, 0, 1);
        Due.are("-1 shuts, with nothing to shut", Lanes.totals(Lanes.of(5, -1), 0, 4), 1, 0, 0, 0);
        Due.are("like", Lanes.totals(Lanes.of(6, -1000), 0, 7), 1, -1000, 1, 1, 1, -1000, -1000);
        Due.are("steps", Lanes.totals(Lanes.of(7, 1000), 0, 5), 0, 0, 1000, 1000, 1);
        Due.are("spread of 1", Lanes.totals(Lanes.of(8, 1), 0, 3), 1, NOTHING, 0);
        Due.are("spread of -1", Lanes.totals(Lanes.of(8, -1), 0, 3), NOTHING, -1, 0);
        Due.are("spread of 0", Lanes.totals(Lanes.of(8, 0), 0, 3), NOTHING, NOTHING, 1);
        Due.are("table of 3", Lanes.totals(Lanes.of(9, 3), 0, 1), 3);
    }

    private static void full(int operation, int value, long... due) {
        SlideFold x = new SlideFold();
        x.letter(1, 57);
        for (int cell = 0; cell < 16; cell++) {
            x.table(cell, (cell / 4 + cell) % 4);
        }
        x.open(0, operation, Lanes.HAND, 0, 0);
        fill(x, 0, value);
        Due.are(operation + ": 120 of " + value, Lanes.totals(x, 0, NUMBERS[operation]), due);
        for (int what = 0; what < due.length; what++) {
            Due.is(operation + ": turned", x.turned(0, what), due[what]);
            Due.is(operation + ": from the first to the last", x.part(0, 0, 119, what), due[what]);
            Due.is(operation + ": 120 neighbours", x.peak(0, 120, what), due[what]);
            Due.is(operation + ": by halves", x.law(0, 2, what), due[what]);
        }
    }

    /** As many as can be held, all alike. */
    private static void fullRows() {
        Due.promise(15);
        full(0, -1000, -1000, 120, 0, 120);
        full(1, -1000, 1000, 120);
        full(1, 0, 0, 0);
        full(2, 0, 0, 1);
        full(2, 1, 1, 960);
        full(3, 1000, 120000, 120000, 120000, 120000);
        full(3, -1000, -1000, -120000, -1000, -1000);
        full(4, 1, 0, 1, 2, 3, 4);
        full(5, 0, 0, 120, 0, 120);
        full(5, -1, 120, 0, 0, 0);
        full(6, 7, 120, 7, 1, 120, 120, 7, 7);
        full(7, 7, 0, 0, 7, 7, 120);
        full(8, 0, NOTHING, NOTHING, 120);
        full(9, -1, 0);
    }

    /** Any lane and any box by the table, or by letters, keeps these as they are. */
    private static void tableAndLettersInUse() {
        for (int lane = 0; lane < 4; lane++) {
            for (int box = 0; box < 3; box++) {
                SlideFold x = new SlideFold();
                x.open(lane, 9, Lanes.HAND, 0, 0);
                x.keep(lane, box);
                Due.promise(2);
                Due.is("an open lane", x.table(0, 0), false);
                x.open(lane, 4, Lanes.HAND, 0, 0);
                Due.is("a box alone", x.table(0, 0), false);
                Due.promise(3);
                Due.is("an open lane", x.letter(0, 0), false);
                x.keep(lane, box);
                x.shut(lane);
                Due.is("a box alone", x.letter(0, 0), false);
                Due.promise(2);
                Due.is("another lane in the box", x.table(0, 0), true);
                x.open(lane, 9, Lanes.HAND, 0, 0);
                x.keep(lane, box);
                x.shut(lane);
                Due.is("the box again", x.table(0, 0), false);
                Due.promise(3);
                Due.is("another lane in the box", x.letter(0, 0), true);
            }
        }
    }

    // ---- what comes, and what goes

    private static void bySmallestAndLargestCount() {
        Due.promise(8);
        SlideFold x = new SlideFold();
        x.open(0, RUN, Lanes.COUNT, 1, 100);
        Due.is("one", x.come(0, 10, 1), 1);
        Due.is("one still", x.come(0, 10, 2), 1);
        Due.is("the newer one", x.total(0, 1), 2);
        Due.is("late, and gone at once", x.come(0, 9, 4), 1);
        Due.is("the newer one", x.total(0, 1), 2);
        Due.is("dropped", x.lane(0, 8), 2);
        x.open(1, RUN, Lanes.COUNT, 120, 1000);
        fill(x, 1, 1);
        Due.is("120, none dropped", x.lane(1, 8), 0);
        Due.is("120 still", x.come(1, 119, 2), 120);
        Due.is("one dropped", x.lane(1, 8), 1);
        Due.is("the oldest", x.event(1, 0, 0), 1);
        Due.is("late: the oldest of all, gone at once", x.come(1, 0, 3), 120);
        Due.is("it is the one that dropped", x.event(1, 0, 0), 1);
        Due.is("two dropped", x.lane(1, 8), 2);
        Due.is("late, behind the oldest, which drops", x.come(1, 1, 4), 120);
        Due.is("the oldest", x.event(1, 0, 1), 4);
    }

    private static void bySmallestAndLargestTime() {
        Due.promise(8);
        SlideFold x = new SlideFold();
        x.open(0, RUN, Lanes.TIME, 1, 100);
        Due.is("one", x.come(0, 10, 1), 1);
        Due.is("of like time", x.come(0, 10, 2), 2);
        Due.is("NEWEST less 1: late, and gone at once", x.come(0, 9, 4), 2);
        Due.is("all but the newest", x.come(0, 11, 8), 1);
        Due.is("dropped", x.lane(0, 8), 3);
        x.open(1, RUN, Lanes.TIME, 10000, 10000);
        Due.is("one", x.come(1, 5, 1), 1);
        Due.is("less than its size behind", x.come(1, 10004, 2), 2);
        Due.is("its size behind", x.come(1, 10005, 4), 2);
        Due.are("times", Lanes.times(x, 1), 10004, 10005);
        Due.is("late, and gone at once", x.come(1, 5, 8), 2);
        Due.is("late, and held", x.come(1, 6, 16), 3);
        Due.is("too late", x.come(1, 4, 32), -2);
        Due.are("times", Lanes.times(x, 1), 6, 10004, 10005);
    }

    private static void slack() {
        Due.promise(8);
        SlideFold x = Lanes.timed(RUN, 0, 50, 1);
        Due.is("without slack, of like time", x.come(0, 50, 1), 2);
        Due.is("without slack, late", x.come(0, 49, 1), -2);
        x = Lanes.timed(RUN, 10000, 60000, 1);
        Due.is("as late as can be", x.come(0, 50000, 1), 2);
        Due.is("too late", x.come(0, 49999, 1), -2);
        Due.is("lost", x.lane(0, 6), 1);
        x = Lanes.timed(RUN, 10000, 9999, 1);
        Due.is("less than the slack from 0 on", x.come(0, 0, 1), 2);
        x = Lanes.timed(RUN, 0);
        Due.is("none came: none is late", x.come(0, 0, 1), 1);
    }

    private static void newest() {
        Due.promise(38);
        SlideFold x = Lanes.timed(RUN, 5);
        Due.is("none came", x.lane(0, 5), NONE);
        x.come(0, 50, 1);
        x.come(0, 45, 1);
        x.come(0, 44, 1);
        Due.is("neither late nor lost ones count", x.lane(0, 5), 50);
        x.take(0, 1);
        Due.is("taken, it counts", x.lane(0, 5), 50);
        x.leave(0, 1);
        Due.is("gone, they count", x.lane(0, 5), 50);
        Due.is("none is held: too late all the same", x.come(0, 44, 1), -2);
        Due.is("none is held: late, and behind all", x.come(0, 45, 1), 1);
        Due.is("ahead of none", x.lane(0, 9), 0);
        Due.are("it was added: a flip of one", Lanes.state(x, 0), 1, 0, 0, 0, 0, 1, 0);
        Due.is("too late by those that are gone", x.come(0, 44, 1), -2);
        x.open(0, RUN, Lanes.HAND, 0, 5);
        Due.is("opened anew", x.lane(0, 5), NONE);
    }

    private static void atMost120() {
        Due.promise(8);
        for (int by = 0; by < 3; by++) {
            SlideFold x = new SlideFold();
            x.open(0, RUN, by, 120, 1000);
            fill(x, 0, 1);
            Due.is("120", x.lane(0, 4), 120);
            boolean byCount = by == Lanes.COUNT;
            Due.is("one more, added", x.come(0, 119, 1), byCount ? 120 : NONE);
            Due.is("one more, late", x.come(0, 60, 1), byCount ? 120 : NONE);
            Due.is("one more in a burst", x.burst(0, 1, 1, 0), byCount ? 120 : NONE);
            Due.is("came", x.lane(0, 7), byCount ? 123 : 120);
            Due.is("NEWEST", x.lane(0, 5), byCount ? 120 : 119);
            x.leave(0, 1);
            Due.is("119 and one", x.come(0, 119, 1), 120);
        }
    }

    // ---- folds

    private static void moves() {
        Due.promise(36);
        SlideFold x = Lanes.of(RUN, 1);
        Due.are("BACK holds more than FRONT: a flip of one step, without", Lanes.state(x, 0), 1, 0, 0, 0, 0, 0, 0);
        x.leave(0, 1);
        Due.are("none is held", Lanes.state(x, 0), 0, 0, 0, 0, 0, 0, 0);
        fill(x, 0, 1);
        // added to BACK: 120 less those at 1, 2, 4 .. 64; flips of 1, 3, 7 .. 63 steps, each but the first
        Due.is("in all", x.state(0, 5), 120 - 7 + 126 - 2 * 6);
        Due.is("no move takes more than four", x.state(0, 6), 4);
        Due.are("FRONT, MIDDLE, BACK", new long[] {x.state(0, 0), x.state(0, 1), x.state(0, 2)}, 63, 0, 57);
        Due.is("till a flip begins", x.soon(0, 0), 7);
        x.leave(0, 120);
        Due.is("dropped, no move takes more than four", x.state(0, 6), 4);
        Due.are("none is held", new long[] {x.state(0, 0), x.state(0, 1), x.state(0, 2)}, 0, 0, 0);
        Due.promise(48);
        x = Lanes.of(RUN);
        Due.is("none to come", x.cost(0, 0, 0), 0);
        Due.is("none to come", x.cost(0, 0, 1), 0);
        Due.is("200, more than can be held", x.cost(0, 200, 0), 200 - 8 + 254 - 2 * 7);
        Due.is("200, the most", x.cost(0, 200, 1), 4);
    }

    private static void laidAnew() {
        Due.promise(36);
        SlideFold x = Lanes.timed(RUN, 10, 10, 1, 5, 1);
        Due.are("one less than the two, no move", Lanes.state(x, 0), 2, 0, 0, 0, 1, 1, 0);
        x.take(0, 0);
        Due.are("of one none", Lanes.state(x, 0), 1, 0, 0, 0, 0, 1, 0);
        x.take(0, 0);
        Due.are("0 at least", Lanes.state(x, 0), 0, 0, 0, 0, 0, 1, 0);
        fill(x, 0, 1);
        int spent = x.state(0, 5);
        x.alter(0, 119, 5);
        Due.are("all are FRONT", Lanes.state(x, 0), 120, 0, 0, 0, 119, spent + 119, 4);
        x.take(0, 0);
        Due.are("less than were held", Lanes.state(x, 0), 119, 0, 0, 0, 118, spent + 119 + 118, 4);
        x.come(0, 129, 1);
        Due.are("placed ahead of one", Lanes.state(x, 0), 120, 0, 0, 0, 119, spent + 2 * 119 + 118, 4);
    }

    // ---- watches and boxes

    private static void watchesOfOtherLanes() {
        Due.promise(40);
        SlideFold x = four(RUN);
        for (int watch = 0; watch < 8; watch++) {
            Due.is("watch " + watch, x.watch(watch, watch % 4, 1, 10), 0);
        }
        for (int lane = 0; lane < 4; lane++) {
            x.come(lane, 20 + lane, 10);
            for (int watch = 0; watch < 8; watch++) {
                Due.is("those of lanes up to " + lane, x.rings(watch), watch % 4 <= lane ? 1 : 0);
                Due.is("NEWEST of its own lane", x.rang(watch), watch % 4 <= lane ? 20 + watch % 4 : NONE);
            }
        }
        x.come(0, 30, -10);
        x.alter(1, 0, 9);
        x.come(2, 30, 0);
        x.leave(3, 1);
        for (int lane = 0; lane < 4; lane++) {
            x.come(lane, 40, 10);
        }
        Due.is("reached again", x.rings(0), 2);
        Due.is("reached again", x.rings(5), 2);
        Due.is("reached all the while", x.rings(2), 1);
        Due.is("reached again", x.rings(7), 2);
        Due.is("in all", x.about(5), 14);
    }

    /** A bound that is reached when the watch is told has to be missed first. */
    private static void watchesToldWhenReached() {
        Due.promise(40);
        SlideFold x = Lanes.of(RUN, 5);
        Due.is("the bound", x.watch(0, 0, 1, 5), 1);
        Due.is("one more than is", x.watch(1, 0, 1, 6), 0);
        Lanes.add(x, 0, 1);
        Due.is("reached already", x.rings(0), 0);
        Due.is("reached now", x.rings(1), 1);
        Lanes.add(x, 0, -2);
        Lanes.add(x, 0, 2);
        Due.is("missed, and reached", x.rings(0), 1);
        Due.is("missed, and reached", x.rings(1), 2);
        Due.is("told anew while it is reached", x.watch(1, 0, 1, 6), 1);
        Due.is("told anew", x.rings(1), 0);
        Lanes.add(x, 0, 1);
        Due.is("reached already", x.rings(1), 0);
        x = Lanes.of(8, -1);
        Due.is("NOTHING is not the bound or more", x.watch(0, 0, 0, NOTHING), 0);
        Lanes.add(x, 0, 1);
        Due.is("there is a number now", x.rings(0), 1);
        x.leave(0, 2);
        Lanes.add(x, 0, 1);
        Due.is("of none there is no number", x.rings(0), 2);
    }

    private static void boxes() {
        Due.promise(51);
        for (int box = 0; box < 3; box++) {
            for (int lane = 0; lane < 4; lane++) {
                SlideFold x = new SlideFold();
                x.open(lane, RUN, Lanes.HAND, 0, 10);
                x.burst(lane, 7, 1, 1);
                long[] told = Lanes.lane(x, lane);
                Due.is("kept", x.keep(lane, box), 7);
                Due.is("one box", x.about(4), 1);
                x.alter(lane, 0, 9);
                x.come(lane, 0, 9);
                x.leave(lane, 3);
                Due.is("back", x.back(box), 7);
                Due.are("a flip goes on, the latest move took 3", Lanes.state(x, lane), 3, 4, 0, 4, 3, 8, 3);
                Due.are("lane", Lanes.lane(x, lane), told);
                Due.are("values", Lanes.values(x, lane), 1, 2, 3, 4, 5, 6, 7);
                x.shut(lane);
                Due.is("shut, and back", x.back(box), 7);
                Due.is("open", x.about(0), 1);
                Due.is("one more", x.come(lane, 7, 1), 8);
                Due.are("the flip goes on", Lanes.state(x, lane), 3, 4, 1, 1, 3, 11, 3);
                Due.is("the box is as it was", x.back(box), 7);
                Due.is("another box", x.back((box + 1) % 3), NONE);
            }
        }
    }

    // ---- links

    /** Neither the one to which one is linked, nor any to which one is linked, is linked to one. */
    private static void linkedAndLinkedTo() {
        Due.promise(42);
        for (int lane = 0; lane < 4; lane++) {
            for (int other = 0; other < 4; other++) {
                SlideFold x = four(RUN);
                Due.is("linked", x.link(2, 1, 5, 0), true);
                boolean can = lane != other && other != 2 && lane != 1;
                Due.is(lane + " linked to " + other, x.link(lane, other, 7, 3), can);
                Due.is("how many", x.about(6), can && lane != 2 ? 2 : 1);
                Due.is("the gap", x.linked(2, 1), can && lane == 2 ? 7 : 5);
            }
        }
        SlideFold x = four(RUN);
        x.link(2, 1, 5, 0);
        x.link(2, 0, 5, 0);
        Due.is("no more linked to", x.link(1, 3, 5, 0), true);
        Due.is("linked to now", x.link(0, 3, 5, 0), false);
        x.unlink(2);
        Due.is("no more linked to", x.link(0, 3, 5, 0), true);
        Due.is("no more linked", x.link(3, 2, 5, 0), false);
        x.unlink(0);
        x.unlink(1);
        Due.is("free", x.link(3, 2, 5, 0), true);
    }

    private static void gaps() {
        Due.promise(42);
        SlideFold x = four(RUN);
        x.link(0, 1, 0, 1);
        Lanes.addTimed(x, 0, 5, 1, 5, 2);
        Due.is("gap 0, of like time", x.lane(1, 4), 0);
        x.come(0, 6, 4);
        Due.are("gap 0, by 1", Lanes.values(x, 1), 3);
        x.link(2, 3, 99999, 1);
        Lanes.addTimed(x, 2, 0, 1);
        Due.is("of none nothing", x.lane(3, 4), 0);
        x.come(2, 99999, 1);
        Due.is("by the gap", x.lane(3, 4), 0);
        x.take(2, 1);
        x.come(2, 100000, 1);
        Due.are("by one more", Lanes.times(x, 3), 0);
        x.open(2, RUN, Lanes.HAND, 0, 0);
        x.link(2, 3, 100000, 1);
        Lanes.addTimed(x, 2, 0, 1, 100000, 1);
        Due.is("by the greatest gap there is", x.linked(2, 3), 0);
    }

    private static void heldWithin() {
        Due.promise(42);
        int[][] due = {{999, 999}, {1000, 1000}, {1000, 1, 1000}, {1000, 1000, 1000}, {-999, -999}, {-1000, -1000},
            {-1000, -1, -1000}, {-1000, -1000, -1000}, {1000, -1, 999}};
        SlideFold x = four(RUN);
        x.link(0, 1, 5, 1);
        int time = 0;
        for (int[] row : due) {
            for (int i = 0; i + 1 < row.length; i++) {
                x.come(0, time, row[i]);
            }
            time += 10;
        }
        x.come(0, time, 0);
        for (int i = 0; i < due.length; i++) {
            Due.is("session " + i, x.event(1, i, 1), due[i][due[i].length - 1]);
        }
        Due.is("all of them", x.linked(0, 3), due.length);
    }

    private static void lostThere() {
        Due.promise(42);
        SlideFold x = four(RUN);
        x.open(1, RUN, Lanes.HAND, 0, 5);
        x.come(1, 50, 1);
        x.link(0, 1, 0, 1);
        Lanes.addTimed(x, 0, 44, 2, 45, 3, 60, 4);
        Due.are("as late as can be", Lanes.times(x, 1), 45, 50);
        Due.is("too late", x.lane(1, 6), 1);
        Due.is("came by it", x.linked(0, 3), 1);
        Due.are("lost or not, here all came", Lanes.values(x, 0), 2, 3, 4);
        x.link(0, 2, 0, 1);
        x.come(2, 2000, 1);
        x.come(0, 61, 1);
        Due.is("NOTHING there but a lost one", x.lane(2, 6), 1);
        x.open(3, 8, Lanes.HAND, 0, 0);
        x.link(3, 2, 0, 0);
        Lanes.addTimed(x, 3, 10, -1, 20, 1);
        Due.is("what is NOTHING does not come, nor is it lost", x.lane(2, 6), 1);
    }

    /** By hand and by time nothing is given to a lane that holds 120, by count the oldest one goes. */
    private static void fullThere() {
        Due.promise(42);
        for (int by = 0; by < 3; by++) {
            SlideFold x = four(RUN);
            x.open(1, RUN, by, 120, 1000);
            fill(x, 1, 1);
            x.link(0, 1, 0, 1);
            boolean byCount = by == Lanes.COUNT;
            x.come(0, 118, 7);
            Due.is("it comes here", x.come(0, 130, 8), 2);
            Due.is("given", x.linked(0, 3), byCount ? 1 : 0);
            Due.is("came there", x.lane(1, 7), byCount ? 121 : 120);
            Due.is("lost there", x.lane(1, 6), 0);
            Due.is("held there", x.lane(1, 4), 120);
            Due.is("most behind a call there", x.lane(1, 10), 120);
            x.leave(1, 1);
            Due.is("it comes here", x.come(0, 140, 9), 3);
            Due.is("one more has room there", x.linked(0, 3), byCount ? 2 : 1);
        }
        fullAndTooLateThere();
        mostThere();
    }

    /** Where nothing is given, nothing is lost, however late it would be. */
    private static void fullAndTooLateThere() {
        for (int by = 0; by < 3; by++) {
            SlideFold x = four(RUN);
            x.open(1, RUN, by, 120, 1000);
            for (int i = 0; i < 120; i++) {
                x.come(1, 5000, 1);
            }
            x.link(0, 1, 0, 1);
            Lanes.addTimed(x, 0, 3999, 1, 4001, 1);
            Due.is("lost there", x.lane(1, 6), by == Lanes.COUNT ? 1 : 0);
            Due.is("held there", x.lane(1, 4), 120);
            x.leave(1, 1);
            x.take(0, 1);
            x.come(0, 4002, 1);
            Due.is("with room there it is lost", x.lane(1, 6), by == Lanes.COUNT ? 2 : 1);
            Due.is("none came by it", x.linked(0, 3), 0);
        }
    }

    /** What is given is behind a call there, too. */
    private static void mostThere() {
        Due.promise(38);
        SlideFold x = four(RUN);
        x.link(0, 1, 0, 1);
        Lanes.addTimed(x, 0, 1, 1, 2, 1, 3, 1);
        Due.is("two given", x.lane(1, 10), 2);
        x.leave(1, 2);
        Due.is("two at the most", x.lane(1, 10), 2);
    }
}
