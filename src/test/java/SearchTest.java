/** Promises 19 to 24, 45 to 47 and 49: bounds that are reached, best neighbours, rows, and what would be. */
public final class SearchTest {
    public static void main(String[] args) {
        reach();
        reachBack();
        peak();
        peakAt();
        without();
        spare();
        shortest();
        windows();
        were();
        parted();
        asManyAsCanBe();
        Due.end("SearchTest");
    }

    private static void reach() {
        Due.promise(19);
        SlideFold x = Lanes.of(3, 5, -3, 4, 2, -9);
        Due.is("the first", x.reach(0, 1, 5), 1);
        Due.is("the bound", x.reach(0, 1, 6), 3);
        Due.is("or more", x.reach(0, 1, 7), 4);
        Due.is("never", x.reach(0, 1, 9), -1);
        Due.is("least", x.reach(0, 1, Integer.MIN_VALUE), 1);
        Due.is("most", x.reach(0, 1, Integer.MAX_VALUE), -1);
        Due.is("number", x.reach(0, 4, 0), -1);
        Due.is("lane", x.reach(1, 0, 0), -1);
        Due.is("of none", Lanes.of(3).reach(0, 1, Integer.MIN_VALUE), -1);
        Due.is("NOTHING is none", Lanes.of(8, 0, -1, 3).reach(0, 0, Integer.MIN_VALUE), 3);
        Due.is("no number at all", Lanes.of(8, 0, -1).reach(0, 0, Integer.MIN_VALUE), -1);
        for (int far : Lanes.FAR) {
            Due.is("what far", x.reach(0, far, 0), -1);
            Due.is("lane far", x.reach(far, 0, 0), -1);
        }
    }

    private static void reachBack() {
        Due.promise(20);
        SlideFold x = Lanes.of(3, 5, -3, 4, 2, -9);
        Due.is("not the newest one", x.reachBack(0, 1, -7), 2);
        Due.is("the bound", x.reachBack(0, 1, -3), 3);
        Due.is("all", x.reachBack(0, 1, -2), 5);
        Due.is("never", x.reachBack(0, 1, 0), -1);
        Due.is("one", x.reachBack(0, 1, Integer.MIN_VALUE), 1);
        Due.is("in their order", Lanes.of(7, 9, 1, 2, 3).reachBack(0, 2, 9), 4);
        Due.is("number", x.reachBack(0, 4, 0), -1);
        Due.is("lane", x.reachBack(1, 0, 0), -1);
        Due.is("of none", Lanes.of(3).reachBack(0, 1, Integer.MIN_VALUE), -1);
        Due.is("NOTHING is none", Lanes.of(8, 3, 0, -1).reachBack(0, 0, Integer.MIN_VALUE), 3);
        for (int far : Lanes.FAR) {
            Due.is("what far", x.reachBack(0, far, 0), -1);
            Due.is("lane far", x.reachBack(far, 0, 0), -1);
        }
    }

    private static void peak() {
        Due.promise(21);
        SlideFold x = Lanes.of(3, 1, 5, -2, 4, 4, -1);
        Due.is("one", x.peak(0, 1, 1), 5);
        Due.is("two", x.peak(0, 2, 1), 8);
        Due.is("five", x.peak(0, 5, 1), 12);
        Due.is("all", x.peak(0, 6, 1), 11);
        Due.is("more than all", x.peak(0, 7, 1), Lanes.NOTHING);
        Due.is("none", x.peak(0, 0, 1), Lanes.NOTHING);
        Due.is("number", x.peak(0, 1, 4), Lanes.NOTHING);
        Due.is("lane", x.peak(1, 1, 0), Lanes.NOTHING);
        Due.is("NOTHING is least", Lanes.of(8, 0, -1, -3).peak(0, 1, 1), -1);
        Due.is("NOTHING alone", Lanes.of(8, 0, 1, 3).peak(0, 2, 1), Lanes.NOTHING);
        for (int far : Lanes.FAR) {
            Due.is("many far", x.peak(0, far, 0), Lanes.NOTHING);
            Due.is("what far", x.peak(0, 1, far), Lanes.NOTHING);
            Due.is("lane far", x.peak(far, 1, 0), Lanes.NOTHING);
        }
    }

    private static void peakAt() {
        Due.promise(22);
        SlideFold x = Lanes.of(3, 1, 5, -2, 4, 4, -1, 8, 0);
        Due.is("one", x.peakAt(0, 1, 1), 6);
        Due.is("of like ones the first", x.peakAt(0, 2, 1), 3);
        Due.is("all", x.peakAt(0, 8, 1), 0);
        Due.is("the last", Lanes.of(3, 1, 2, 3).peakAt(0, 2, 1), 1);
        Due.is("held ones alone", Lanes.of(3, -5, -3).peakAt(0, 1, 1), 1);
        Due.is("more than all", x.peakAt(0, 9, 1), -1);
        Due.is("none", x.peakAt(0, 0, 1), -1);
        Due.is("number", x.peakAt(0, 1, 4), -1);
        Due.is("lane", x.peakAt(1, 1, 0), -1);
        Due.is("NOTHING is least", Lanes.of(8, 0, 1, -3).peakAt(0, 1, 1), 2);
        Due.is("NOTHING alone", Lanes.of(8, 0, 1, 3).peakAt(0, 1, 1), 0);
        for (int far : Lanes.FAR) {
            Due.is("many far", x.peakAt(0, far, 0), -1);
            Due.is("what far", x.peakAt(0, 1, far), -1);
            Due.is("lane far", x.peakAt(far, 1, 0), -1);
        }
    }

    private static void without() {
        Due.promise(23);
        SlideFold x = Lanes.of(6, 1, 1, 2, 1, 1, 1);
        Due.is("the rows close up", x.without(0, 2, 0), 5);
        Due.is("the oldest", x.without(0, 0, 3), 1);
        Due.is("the newest", x.without(0, 5, 4), 2);
        Due.is("nothing is taken", x.total(0, 0), 3);
        Due.is("event", x.without(0, 6, 0), Lanes.NOTHING);
        Due.is("number", x.without(0, 0, 7), Lanes.NOTHING);
        Due.is("lane", x.without(1, 0, 0), Lanes.NOTHING);
        Due.is("of one", Lanes.of(1, 5).without(0, 0, 0), Lanes.NOTHING);
        Due.is("of none", Lanes.of(1).without(0, 0, 0), Lanes.NOTHING);
        Due.is("no number", Lanes.of(8, 5, -1).without(0, 0, 0), Lanes.NOTHING);
        for (int far : Lanes.FAR) {
            Due.is("event far", x.without(0, far, 0), Lanes.NOTHING);
            Due.is("what far", x.without(0, 0, far), Lanes.NOTHING);
            Due.is("lane far", x.without(far, 0, 0), Lanes.NOTHING);
        }
    }

    private static void spare() {
        Due.promise(24);
        Due.is("the least", Lanes.of(3, 5, -3, 4, -3).spare(0, 1), 1);
        Due.is("what parts the rows", Lanes.of(6, 1, 1, 2, 1, 1, 1).spare(0, 0), 2);
        Due.is("the last", Lanes.of(3, 5, 3, 4, -3).spare(0, 1), 3);
        Due.is("of like ones the first", Lanes.of(3, 7, 7).spare(0, 1), 0);
        Due.is("NOTHING is least", Lanes.of(8, -5, 0, -1).spare(0, 1), 0);
        Due.is("all NOTHING", Lanes.of(8, 5, 0, 1).spare(0, 1), 0);
        Due.is("a number ahead of NOTHING", Lanes.of(8, -5, 3).spare(0, 1), 1);
        Due.is("of one", Lanes.of(3, 5).spare(0, 1), -1);
        Due.is("of none", Lanes.of(3).spare(0, 1), -1);
        SlideFold x = Lanes.of(3, 5, 6);
        Due.is("number", x.spare(0, 4), -1);
        Due.is("lane", x.spare(1, 0), -1);
        for (int far : Lanes.FAR) {
            Due.is("what far", x.spare(0, far), -1);
            Due.is("lane far", x.spare(far, 0), -1);
        }
    }

    private static void shortest() {
        Due.promise(45);
        SlideFold x = Lanes.of(3, 2, 1, 4, -5, 3, 2, 5, 1);
        Due.is("one", x.shortest(0, 1, 5, 0), 1);
        Due.is("where", x.shortest(0, 1, 5, 1), 6);
        Due.is("two", x.shortest(0, 1, 7, 0), 2);
        Due.is("where", x.shortest(0, 1, 7, 1), 5);
        Due.is("three", x.shortest(0, 1, 10, 0), 3);
        Due.is("where", x.shortest(0, 1, 10, 1), 4);
        Due.is("the first of like ones", x.shortest(0, 1, 2, 1), 0);
        Due.is("all", x.shortest(0, 1, 13, 0), 8);
        Due.is("where", x.shortest(0, 1, 13, 1), 0);
        Due.is("never", x.shortest(0, 1, 14, 0), -1);
        Due.is("never", x.shortest(0, 1, 14, 1), -1);
        Due.is("k 2", x.shortest(0, 1, 5, 2), -1);
        Due.is("number", x.shortest(0, 4, 5, 0), -1);
        Due.is("lane", x.shortest(1, 0, 5, 0), -1);
        Due.is("of none", Lanes.of(3).shortest(0, 1, Integer.MIN_VALUE, 0), -1);
        Due.is("NOTHING is none", Lanes.of(8, 0, -1, 3).shortest(0, 0, Integer.MIN_VALUE, 1), 2);
        SlideFold taken = Lanes.of(3, -1, -1, 5);
        taken.take(0, 2);
        Due.is("held ones alone", taken.shortest(0, 1, 4, 0), -1);
        Due.is("a later one is shorter", Lanes.of(3, 3, 3, 6).shortest(0, 1, 6, 1), 2);
        for (int far : Lanes.FAR) {
            Due.is("k far", x.shortest(0, 1, 5, far), -1);
            Due.is("what far", x.shortest(0, far, 5, 0), -1);
            Due.is("lane far", x.shortest(far, 1, 5, 0), -1);
        }
    }

    private static void windows() {
        Due.promise(46);
        int least = Integer.MIN_VALUE;
        int most = Integer.MAX_VALUE;
        SlideFold x = Lanes.of(3, 1, 2, -3, 4);
        // sums: 1 3 0 4, 2 -1 3, -3 1, 4
        Due.is("all", x.windows(0, 1, least, most), 10);
        Due.is("one sum", x.windows(0, 1, 3, 3), 2);
        Due.is("some", x.windows(0, 1, 1, 3), 5);
        Due.is("low alone", x.windows(0, 1, 4, most), 2);
        Due.is("high alone", x.windows(0, 1, least, -1), 2);
        Due.is("the other way", x.windows(0, 1, 3, 1), 0);
        Due.is("NOTHING is not", Lanes.of(8, 5, -1, 0).windows(0, 1, least, most), 4);
        Due.is("of none", Lanes.of(3).windows(0, 1, least, most), 0);
        Due.is("number", x.windows(0, 4, least, most), -1);
        Due.is("lane", x.windows(1, 0, least, most), -1);
        for (int far : Lanes.FAR) {
            Due.is("what far", x.windows(0, far, 0, 5), -1);
            Due.is("lane far", x.windows(far, 0, 0, 5), -1);
        }
    }

    private static void were() {
        Due.promise(47);
        SlideFold x = Lanes.timed(2, 10, 20, 1, 30, 2);
        Due.is("behind all", x.were(0, 30, 5, 1), Lanes.of(2, 1, 2, 5).total(0, 1));
        Due.is("between", x.were(0, 20, 5, 1), Lanes.of(2, 1, 5, 2).total(0, 1));
        Due.is("lost", x.were(0, 19, 5, 1), Lanes.NOTHING);
        x.open(0, 2, Lanes.HAND, 0, 100);
        Due.is("of none", x.were(0, 7, 5, 0), 5);
        Lanes.addTimed(x, 0, 20, 1, 30, 2);
        Due.is("ahead of all", x.were(0, 5, 5, 1), Lanes.of(2, 5, 1, 2).total(0, 1));
        Due.is("time", x.were(0, 100001, 5, 0), Lanes.NOTHING);
        Due.is("value", x.were(0, 50, 1001, 0), Lanes.NOTHING);
        Due.is("value", x.were(0, 50, -1001, 0), Lanes.NOTHING);
        Due.is("number", x.were(0, 50, 5, 2), Lanes.NOTHING);
        Due.is("lane", x.were(1, 50, 5, 0), Lanes.NOTHING);
        for (int far : Lanes.FAR) {
            Due.is("time far", x.were(0, far, 5, 0), Lanes.NOTHING);
            Due.is("what far", x.were(0, 50, 5, far), Lanes.NOTHING);
            Due.is("lane far", x.were(far, 50, 5, 0), Lanes.NOTHING);
        }
        Due.is("value far", x.were(0, 50, Integer.MIN_VALUE, 0), Lanes.NOTHING);
        Due.are("nothing done", Lanes.lane(x, 0), 2, 0, 0, 100, 2, 30, 0, 2, 0, 0, 2);
        wereWithDrops();
        wereLinked();
    }

    private static void wereWithDrops() {
        SlideFold x = new SlideFold();
        x.open(0, 3, Lanes.COUNT, 3, 100);
        Lanes.addTimed(x, 0, 100, 1, 110, 2, 120, 4);
        Due.is("by count the oldest goes", x.were(0, 130, 8, 1), 14);
        Due.is("by count it goes itself", x.were(0, 90, 8, 1), 7);
        Due.is("by count, late", x.were(0, 100, 8, 1), 14);
        x.open(0, 3, Lanes.TIME, 10, 100);
        Lanes.addTimed(x, 0, 100, 1, 105, 2, 109, 4);
        Due.is("by time, none goes", x.were(0, 109, 8, 1), 15);
        Due.is("by time one goes", x.were(0, 110, 8, 1), 14);
        Due.is("by time all go", x.were(0, 119, 8, 1), 8);
        Due.is("late and gone", x.were(0, 99, 8, 1), 7);
        Due.is("late and held", x.were(0, 100, 8, 1), 15);
        x.leave(0, 3);
        Due.is("none would be held", x.were(0, 99, 8, 1), Lanes.NOTHING);
        Due.is("one would be held", x.were(0, 100, 8, 1), 8);
        for (int i = 0; i < 120; i++) {
            x.come(0, 109, 1);
        }
        Due.is("refused", x.were(0, 5000, 8, 1), Lanes.NOTHING);
        x.open(0, 3, Lanes.COUNT, 120, 0);
        for (int i = 0; i < 120; i++) {
            x.come(0, 109, 1);
        }
        Due.is("by count not refused", x.were(0, 5000, 8, 1), 127);
    }

    private static void wereLinked() {
        SlideFold x = Lanes.timed(3, 0, 5, 7);
        x.open(1, 3, Lanes.HAND, 0, 0);
        x.link(0, 1, 3, 1);
        Due.is("links aside", x.were(0, 50, 1, 1), 8);
        Due.is("nothing given", x.lane(1, 4), 0);
    }

    private static long[] parts(SlideFold x, int rows, int what) {
        long[] all = new long[rows + 1];
        for (int i = 0; i <= rows; i++) {
            all[i] = x.parted(0, rows, what, i);
        }
        return all;
    }

    private static void parted() {
        Due.promise(49);
        SlideFold x = Lanes.of(0, 1, 5, 2, 8, 3);
        Due.are("one row", parts(x, 1, 0), 8, 0);
        Due.are("of like ways the first", parts(x, 2, 0), 13, 0, 2);
        Due.are("three", parts(x, 3, 0), 16, 0, 2, 4);
        Due.are("four", parts(x, 4, 0), 18, 0, 2, 3, 4);
        Due.are("second row first, then the third", parts(Lanes.of(3, 1, 1, 1, 1, 1), 3, 1), 5, 0, 1, 2);
        Due.are("then the fourth", parts(Lanes.of(3, 1, 1, 1, 1, 1), 4, 1), 5, 0, 1, 2, 3);
        Due.are("below 0", parts(Lanes.of(0, -5, -1, -7), 2, 0), -6, 0, 1);
        Due.are("each its own", parts(Lanes.of(3, 4, -9, 4, -9), 4, 0), -10, 0, 1, 2, 3);
        Due.are("none NOTHING", parts(Lanes.of(8, 0, 0, 5, 0, 7), 2, 0), 12, 0, 3);
        long none = Lanes.NOTHING;
        Due.are("one is NOTHING at least", parts(Lanes.of(8, 0, 0, 5, 0), 2, 0), none, none, none);
        Due.are("too few", parts(Lanes.of(0, 1, 2, 3), 4, 0), none, none, none, none, none);
        Due.are("just enough", parts(Lanes.of(0, 1, 2, 3, 4), 4, 0), 10, 0, 1, 2, 3);
        Due.are("of none", parts(Lanes.of(0), 1, 0), none, none);
        partedOfMost();
        partedWrong(x);
    }

    private static void partedOfMost() {
        SlideFold x = Lanes.of(3);
        for (int i = 0; i < 3; i++) {
            x.burst(0, 40, 1, 0);
        }
        Due.are("120", parts(x, 4, 1), 120, 0, 1, 2, 3);
        x.alter(0, 119, 1000);
        Due.are("the greatest, alone or not", parts(x, 2, 0), 1119, 0, 1);
        x.open(0, 0, Lanes.HAND, 0, 0);
        x.burst(0, 40, -39, 1);
        x.burst(0, 40, 0, 0);
        x.burst(0, 40, 1, 1);
        Due.are("the greatest ones, each alone", parts(x, 4, 0), 40 + 39 + 38 + 37, 0, 117, 118, 119);
        Due.are("-1 is a sum", parts(Lanes.of(3, -1, 0, 0), 2, 1), -1, 0, 1);
        Due.are("-1 is a sum, not the most", parts(Lanes.of(0, -1, -2, 0, -3), 2, 0), -1, 0, 1);
    }

    private static void partedWrong(SlideFold x) {
        Due.is("rows 0", x.parted(0, 0, 0, 0), Lanes.NOTHING);
        Due.is("rows 5", x.parted(0, 5, 0, 0), Lanes.NOTHING);
        Due.is("row 3 of 2", x.parted(0, 2, 0, 3), Lanes.NOTHING);
        Due.is("row 5 of 4", x.parted(0, 4, 0, 5), Lanes.NOTHING);
        Due.is("number", x.parted(0, 2, 4, 0), Lanes.NOTHING);
        Due.is("lane", x.parted(1, 2, 0, 0), Lanes.NOTHING);
        for (int far : Lanes.FAR) {
            Due.is("rows far", x.parted(0, far, 0, 0), Lanes.NOTHING);
            Due.is("i far", x.parted(0, 2, 0, far), Lanes.NOTHING);
            Due.is("what far", x.parted(0, 2, far, 0), Lanes.NOTHING);
            Due.is("lane far", x.parted(far, 2, 0, 0), Lanes.NOTHING);
        }
    }

    /** 120 of the value 1, at the times 0 .. 119. */
    private static void asManyAsCanBe() {
        SlideFold x = Lanes.of(3);
        for (int i = 0; i < 3; i++) {
            x.burst(0, 40, 1, 0);
        }
        Due.promise(19);
        Due.is("all", x.reach(0, 1, 120), 120);
        Due.is("more than all", x.reach(0, 1, 121), -1);
        Due.promise(20);
        Due.is("all", x.reachBack(0, 1, 120), 120);
        Due.is("more than all", x.reachBack(0, 1, 121), -1);
        Due.promise(45);
        Due.is("all", x.shortest(0, 1, 120, 0), 120);
        Due.is("from the first", x.shortest(0, 1, 120, 1), 0);
        Due.is("more than all", x.shortest(0, 1, 121, 0), -1);
        Due.promise(46);
        Due.is("120 * 121 / 2 rows", x.windows(0, 1, 1, 120), 7260);
        Due.is("one of all", x.windows(0, 1, 120, 120), 1);
        Due.promise(26);
        Due.is("the newest two", x.commutes(0, 118), 1);
        Due.is("the newest one has none next", x.commutes(0, 119), -1);
        Due.promise(47);
        Due.is("one more is refused", x.were(0, 119, 1, 1), Lanes.NOTHING);
        x.alter(0, 119, -5);
        Due.promise(26);
        Due.is("the newest two do not: the last sums", x.commutes(0, 118), 0);
        atTheLastOne(x);
    }

    /** 119 of the value 1, behind them one of -5. */
    private static void atTheLastOne(SlideFold x) {
        Due.promise(23);
        Due.is("all but the newest", x.without(0, 119, 1), 119);
        Due.is("all but the oldest", x.without(0, 0, 1), 113);
        Due.is("all but one more", x.without(0, 120, 1), Lanes.NOTHING);
        Due.promise(24);
        Due.is("the newest", x.spare(0, 1), 119);
        Due.is("two are enough", Lanes.of(3, 1, 0).spare(0, 1), 1);
        Due.promise(22);
        Due.is("all", x.peakAt(0, 120, 1), 0);
        Due.is("one more", x.peakAt(0, 121, 1), -1);
        Due.is("the first of 119", x.peakAt(0, 119, 1), 0);
        x.alter(0, 119, 5);
        Due.is("the newest of 119", x.peakAt(0, 119, 1), 1);
        Due.is("the newest", x.peakAt(0, 1, 1), 119);
        Due.promise(21);
        Due.is("the newest", x.peak(0, 1, 1), 5);
        Due.is("all", x.peak(0, 120, 1), 124);
        Due.is("one more", x.peak(0, 121, 1), Lanes.NOTHING);
        Due.promise(20);
        Due.is("the newest alone", x.reachBack(0, 1, 5), 1);
        Due.promise(45);
        Due.is("the newest alone", x.shortest(0, 1, 5, 1), 119);
        Due.promise(46);
        Due.is("the newest alone, or five others", x.windows(0, 1, 5, 5), 116);
    }
}
