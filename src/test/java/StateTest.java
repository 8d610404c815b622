/** Promises 36, 37 and 48: FRONT, MIDDLE and BACK, the STEPS of a FLIP, and what the MOVES take. */
public final class StateTest {
    public static void main(String[] args) {
        added();
        dropped();
        drainedAtLastStep();
        laidAnew();
        byCount();
        wrong();
        soon();
        cost();
        Due.end("StateTest");
    }

    private static void after(SlideFold x, String call, long... want) {
        Due.are(call, Lanes.state(x, 0), want);
    }

    /** FRONT, MIDDLE, BACK, STEPS left; COMBINATIONS of the latest, in all, the most of a MOVE. */
    private static void added() {
        Due.promise(36);
        SlideFold x = Lanes.of(3);
        after(x, "at first", 0, 0, 0, 0, 0, 0, 0);
        long[][] due = {
            {1, 0, 0, 0, 0, 0, 0},
            {1, 0, 1, 0, 0, 0, 0},
            {3, 0, 0, 0, 3, 3, 3},
            {3, 0, 1, 0, 0, 3, 3},
            {3, 0, 2, 0, 1, 4, 3},
            {3, 0, 3, 0, 1, 5, 3},
            {3, 4, 0, 4, 3, 8, 3},
            {3, 4, 1, 1, 3, 11, 3},
            {7, 0, 2, 0, 2, 13, 3},
            {7, 0, 3, 0, 1, 14, 3},
        };
        for (int i = 0; i < due.length; i++) {
            x.come(0, i, 1);
            after(x, i + 1 + " added", due[i]);
        }
        // 15 are held when a flip of 15 steps begins: 3, 3, 3, 3, 3
        for (int i = 10; i < 15; i++) {
            x.come(0, i, 1);
        }
        after(x, "15 added", 7, 8, 0, 12, 3, 21, 3);
        x.come(0, 15, 1);
        after(x, "16 added", 7, 8, 1, 9, 3, 24, 3);
        x.come(0, 16, 1);
        after(x, "17 added: four", 7, 8, 2, 6, 4, 28, 4);
        x.come(0, 17, 1);
        x.come(0, 18, 1);
        after(x, "19 added", 15, 0, 4, 0, 4, 36, 4);
    }

    private static void dropped() {
        SlideFold x = Lanes.of(3, 1, 1, 1, 1, 1, 1, 1);
        x.leave(0, 1);
        after(x, "one left out of the steps", 6, 0, 0, 0, 3, 11, 3);
        x.leave(0, 2);
        after(x, "no flip", 4, 0, 0, 0, 0, 11, 3);
        x.come(0, 10, 1);
        x.come(0, 11, 1);
        x.come(0, 12, 1);
        after(x, "three in BACK", 4, 0, 3, 0, 1, 13, 3);
        x.leave(0, 1);
        after(x, "not more than FRONT", 3, 0, 3, 0, 0, 13, 3);
        x.leave(0, 1);
        after(x, "a drop begins a flip", 2, 3, 0, 2, 2, 15, 3);
        x.come(0, 13, 1);
        after(x, "two steps are left", 5, 0, 1, 0, 2, 17, 3);
        x.leave(0, 6);
        after(x, "all gone", 0, 0, 0, 0, 0, 17, 3);
        x.leave(0, 0);
        after(x, "none goes: no move", 0, 0, 0, 0, 0, 17, 3);
        emptiedThenLike();
    }

    /** FRONT gone, what is in BACK moves up by a flip at the end of that very move. */
    private static void emptiedThenLike() {
        SlideFold x = Lanes.of(3, 1, 1);
        after(x, "one in each", 1, 0, 1, 0, 0, 0, 0);
        x.leave(0, 1);
        after(x, "BACK to FRONT", 1, 0, 0, 0, 0, 0, 0);
    }

    /** A drop that takes the last step that is left ends the flip without a combination. */
    private static void drainedAtLastStep() {
        SlideFold x = Lanes.of(3, 1, 1, 1, 1, 1, 1, 1, 1);
        after(x, "one step is left", 3, 4, 1, 1, 3, 11, 3);
        x.leave(0, 1);
        after(x, "none is left", 6, 0, 1, 0, 0, 11, 3);
    }

    private static void laidAnew() {
        Due.promise(36);
        SlideFold x = Lanes.timed(3, 50, 10, 1, 20, 2, 30, 3, 40, 4, 50, 5, 60, 6, 70, 7);
        after(x, "a flip goes on", 3, 4, 0, 4, 3, 8, 3);
        x.come(0, 69, 8);
        after(x, "placed ahead", 8, 0, 0, 0, 7, 15, 3);
        x.come(0, 70, 8);
        after(x, "added", 8, 0, 1, 0, 0, 15, 3);
        x.alter(0, 0, 3);
        after(x, "altered", 9, 0, 0, 0, 8, 23, 3);
        x.take(0, 8);
        after(x, "taken", 8, 0, 0, 0, 7, 30, 3);
        x.take(0, 9);
        x.alter(0, 9, 1);
        x.come(0, 5, 1);
        after(x, "none such, lost", 8, 0, 0, 0, 7, 30, 3);
        x = Lanes.of(3, 1, 2);
        x.take(0, 0);
        after(x, "one is held", 1, 0, 0, 0, 0, 0, 0);
        x.take(0, 0);
        after(x, "none is held", 0, 0, 0, 0, 0, 0, 0);
        x = Lanes.timed(3, 50, 10, 1, 20, 2, 30, 3);
        x.take(0, 0);
        x.take(0, 0);
        after(x, "one is held", 1, 0, 0, 0, 0, 4, 3);
        x.alter(0, 0, 2);
        after(x, "of one none", 1, 0, 0, 0, 0, 4, 3);
    }

    private static void byCount() {
        Due.promise(36);
        SlideFold x = new SlideFold();
        x.open(0, 3, Lanes.COUNT, 1, 100);
        x.come(0, 10, 1);
        x.come(0, 20, 2);
        after(x, "added, then dropped", 1, 0, 0, 0, 0, 0, 0);
        x.open(0, 3, Lanes.COUNT, 3, 100);
        Lanes.addTimed(x, 0, 10, 1, 20, 2, 30, 3);
        after(x, "three", 3, 0, 0, 0, 3, 3, 3);
        x.come(0, 25, 4);
        after(x, "laid anew with four, then dropped", 3, 0, 0, 0, 0, 6, 3);
        x.open(0, 3, Lanes.TIME, 10, 100);
        Lanes.addTimed(x, 0, 10, 1, 11, 2, 12, 3);
        x.come(0, 22, 4);
        after(x, "by time three go, a flip at the third", 1, 0, 0, 0, 0, 3, 3);
    }

    private static void wrong() {
        Due.promise(36);
        SlideFold x = Lanes.of(3, 1);
        Due.is("what 7", x.state(0, 7), -1);
        Due.is("lane", x.state(1, 0), -1);
        for (int far : Lanes.FAR) {
            Due.is("what far", x.state(0, far), -1);
            Due.is("lane far", x.state(far, 0), -1);
        }
    }

    private static void soon() {
        Due.promise(37);
        SlideFold x = Lanes.of(3);
        int[] begins = {1, 2, 1, 4, 3, 2, 1, -1, -1, 6, 5, 4, 3, 2, 1, -1};
        int[] ends = {-1, -1, -1, -1, -1, -1, -1, 2, 1, -1, -1, -1, -1, -1, -1, 4};
        for (int i = 0; i < begins.length; i++) {
            Due.is(i + " held: begins", x.soon(0, 0), begins[i]);
            Due.is(i + " held: ends", x.soon(0, 1), ends[i]);
            x.come(0, i, 1);
        }
        Due.is("what 2, a flip goes on", x.soon(0, 2), -1);
        Due.is("what -1, a flip goes on", x.soon(0, -1), -1);
        x.alter(0, 0, 2);
        Due.is("laid anew: begins", x.soon(0, 0), 17);
        Due.is("laid anew: ends", x.soon(0, 1), -1);
        Due.is("what 2", x.soon(0, 2), -1);
        Due.is("lane", x.soon(1, 0), -1);
        Due.is("lane", x.soon(1, 1), -1);
        for (int far : Lanes.FAR) {
            Due.is("what far", x.soon(0, far), -1);
            Due.is("lane far", x.soon(far, 0), -1);
        }
    }

    private static void cost() {
        Due.promise(48);
        SlideFold x = Lanes.of(3);
        int[] spent = {0, 0, 0, 3, 3, 4, 5, 8, 11, 13, 14};
        for (int many = 0; many < spent.length; many++) {
            Due.is(many + ": together", x.cost(0, many, 0), spent[many]);
            Due.is(many + ": the most", x.cost(0, many, 1), many < 3 ? 0 : 3);
        }
        Due.is("19: together", x.cost(0, 19, 0), 36);
        Due.is("19: the most", x.cost(0, 19, 1), 4);
        Lanes.add(x, 0, 1, 1, 1, 1, 1, 1, 1);
        Due.is("from a flip on", x.cost(0, 2, 0), 5);
        Due.is("the most of these", x.cost(0, 1, 1), 3);
        Due.is("none", x.cost(0, 0, 0), 0);
        Due.is("the most of none", x.cost(0, 0, 1), 0);
        after(x, "nothing done", 3, 4, 0, 4, 3, 8, 3);
        x.alter(0, 0, 5);
        Due.is("the most of these alone", x.cost(0, 1, 1), 0);
        Due.is("the most of these alone", x.cost(0, 2, 1), 1);
        x.burst(0, 40, 1, 0);
        Due.is("less than 0", x.cost(0, -1, 0), -1);
        Due.is("201", x.cost(0, 201, 0), -1);
        Due.is("what 2", x.cost(0, 5, 2), -1);
        Due.is("lane", x.cost(1, 5, 0), -1);
        for (int far : Lanes.FAR) {
            Due.is("many far", x.cost(0, far, 0), -1);
            Due.is("what far", x.cost(0, 5, far), -1);
            Due.is("lane far", x.cost(far, 5, 0), -1);
        }
        costOfMost();
    }

    /** More may be asked than can be held: 120 by 120 are what 120 moves tell. */
    private static void costOfMost() {
        SlideFold x = Lanes.of(3);
        int all = x.cost(0, 120, 0);
        int more = x.cost(0, 200, 0);
        for (int i = 0; i < 3; i++) {
            x.burst(0, 40, 1, 0);
        }
        Due.is("120", x.state(0, 5), all);
        Due.is("80 more", x.cost(0, 80, 0), more - all);
        Due.is("200 more", x.cost(0, 200, 0) > 0, true);
    }
}
