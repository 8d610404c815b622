/** Promises 18 and 30 to 34: how many in a time, panes and sessions. */
public final class TimesTest {
    public static void main(String[] args) {
        many();
        panes();
        fullest();
        sessions();
        session();
        longest();
        asManyAsCanBe();
        Due.end("TimesTest");
    }

    /** Times 0, 4, 5, 5, 9, 20, 21, 23, 100000 with the values 1 .. 9. */
    private static SlideFold some() {
        return Lanes.timed(3, 0, 0, 1, 4, 2, 5, 3, 5, 4, 9, 5, 20, 6, 21, 7, 23, 8, 100000, 9);
    }

    private static void many() {
        Due.promise(18);
        SlideFold x = some();
        int least = Integer.MIN_VALUE;
        int most = Integer.MAX_VALUE;
        Due.is("both times too", x.many(0, 4, 20), 5);
        Due.is("one time", x.many(0, 5, 5), 2);
        Due.is("between", x.many(0, 6, 8), 0);
        Due.is("all", x.many(0, least, most), 9);
        Due.is("least", x.many(0, least, least), 0);
        Due.is("from the least", x.many(0, least, 0), 1);
        Due.is("most", x.many(0, most, most), 0);
        Due.is("the other way", x.many(0, 20, 4), 0);
        Due.is("the other way, far", x.many(0, most, least), 0);
        Due.is("of none", Lanes.of(3).many(0, least, most), 0);
        Due.is("lane", x.many(1, 0, 5), -1);
        for (int far : Lanes.FAR) {
            Due.is("lane far", x.many(far, 0, 5), -1);
        }
    }

    private static void panes() {
        Due.promise(30);
        SlideFold x = some();
        Due.is("of one", x.panes(0, 1), 8);
        Due.is("of five", x.panes(0, 5), 4);
        Due.is("of six", x.panes(0, 6), 4);
        Due.is("as wide as can be", x.panes(0, 100000), 2);
        Due.is("width 0", x.panes(0, 0), -1);
        Due.is("width 100001", x.panes(0, 100001), -1);
        Due.is("of none", Lanes.of(3).panes(0, 1), 0);
        Due.is("lane", x.panes(1, 5), -1);
        for (int far : Lanes.FAR) {
            Due.is("width far", x.panes(0, far), -1);
            Due.is("lane far", x.panes(far, 5), -1);
        }
    }

    private static void fullest() {
        Due.promise(31);
        SlideFold x = some();
        Due.is("of one", x.fullest(0, 1), 5);
        Due.is("of like ones the first", x.fullest(0, 5), 1);
        Due.is("of six", x.fullest(0, 6), 0);
        Due.is("of 24", x.fullest(0, 24), 0);
        Due.is("a later one is fuller", Lanes.timed(3, 0, 1, 1, 10, 1, 11, 1).fullest(0, 10), 1);
        Due.is("two are not more than two", Lanes.timed(3, 0, 11, 1, 12, 1, 25, 1, 26, 1).fullest(0, 10), 1);
        Due.is("three are more than two", Lanes.timed(3, 0, 1, 1, 2, 1, 25, 1, 26, 1, 27, 1).fullest(0, 10), 2);
        Due.is("three are not more than three",
            Lanes.timed(3, 0, 1, 1, 2, 1, 3, 1, 25, 1, 26, 1, 27, 1).fullest(0, 10), 0);
        Due.is("two are more than one", Lanes.timed(3, 0, 11, 1, 25, 1, 26, 1).fullest(0, 10), 2);
        Due.is("the last one", Lanes.timed(3, 0, 100000, 1).fullest(0, 1), 100000);
        Due.is("width 0", x.fullest(0, 0), -1);
        Due.is("width 100001", x.fullest(0, 100001), -1);
        Due.is("as wide as can be", x.fullest(0, 100000), 0);
        Due.is("of none", Lanes.of(3).fullest(0, 1), -1);
        Due.is("lane", x.fullest(1, 5), -1);
        for (int far : Lanes.FAR) {
            Due.is("width far", x.fullest(0, far), -1);
            Due.is("lane far", x.fullest(far, 5), -1);
        }
    }

    private static void sessions() {
        Due.promise(32);
        SlideFold x = some();
        Due.is("gap 0", x.sessions(0, 0), 8);
        Due.is("gap 1", x.sessions(0, 1), 6);
        Due.is("gap 4", x.sessions(0, 4), 3);
        Due.is("gap 10", x.sessions(0, 10), 3);
        Due.is("gap 11", x.sessions(0, 11), 2);
        Due.is("gap 99976", x.sessions(0, 99976), 2);
        Due.is("gap 99977", x.sessions(0, 99977), 1);
        Due.is("gap 100000", x.sessions(0, 100000), 1);
        Due.is("gap 100001", x.sessions(0, 100001), -1);
        Due.is("of none", Lanes.of(3).sessions(0, 1), 0);
        Due.is("lane", x.sessions(1, 5), -1);
        for (int far : Lanes.FAR) {
            Due.is("gap far", x.sessions(0, far), -1);
            Due.is("lane far", x.sessions(far, 5), -1);
        }
    }

    private static void session() {
        Due.promise(33);
        SlideFold x = some();
        Due.is("the oldest", x.session(0, 4, 0, 1), 15);
        Due.is("the next", x.session(0, 4, 1, 1), 21);
        Due.is("the newest", x.session(0, 4, 2, 1), 9);
        Due.is("none such", x.session(0, 4, 3, 1), Lanes.NOTHING);
        Due.is("none such", x.session(0, 4, -1, 1), Lanes.NOTHING);
        Due.is("gap 0", x.session(0, 0, 2, 1), 7);
        Due.is("gap 100000", x.session(0, 100000, 0, 1), 45);
        Due.is("gap 100001", x.session(0, 100001, 0, 1), Lanes.NOTHING);
        Due.is("of none", Lanes.of(3).session(0, 1, 0, 1), Lanes.NOTHING);
        Due.is("number", x.session(0, 4, 0, 4), Lanes.NOTHING);
        Due.is("lane", x.session(1, 4, 0, 1), Lanes.NOTHING);
        for (int far : Lanes.FAR) {
            Due.is("session far", x.session(0, 4, far, 1), Lanes.NOTHING);
            Due.is("gap far", x.session(0, far, 0, 1), Lanes.NOTHING);
            Due.is("what far", x.session(0, 4, 0, far), Lanes.NOTHING);
            Due.is("lane far", x.session(far, 4, 0, 1), Lanes.NOTHING);
        }
    }

    private static void longest() {
        Due.promise(34);
        SlideFold x = some();
        Due.is("gap 4", x.longest(0, 4), 0);
        Due.is("gap 0", x.longest(0, 0), 2);
        Due.is("gap 1", x.longest(0, 1), 1);
        Due.is("of like ones the oldest", Lanes.timed(3, 0, 1, 1, 5, 1, 6, 1, 9, 1, 10, 1).longest(0, 1), 1);
        Due.is("the newest", Lanes.timed(3, 0, 1, 1, 5, 1, 6, 1, 9, 1, 10, 1, 11, 1).longest(0, 1), 2);
        Due.is("two are not more than two", Lanes.timed(3, 0, 1, 1, 2, 1, 9, 1, 10, 1).longest(0, 1), 0);
        Due.is("two are more than one", Lanes.timed(3, 0, 1, 1, 9, 1, 10, 1).longest(0, 1), 1);
        Due.is("one is not more than one", Lanes.timed(3, 0, 1, 1, 9, 1).longest(0, 1), 0);
        Due.is("three are more than two", Lanes.timed(3, 0, 1, 1, 2, 1, 9, 1, 10, 1, 11, 1).longest(0, 1), 1);
        Due.is("three are not more than three",
            Lanes.timed(3, 0, 1, 1, 2, 1, 3, 1, 9, 1, 10, 1, 11, 1).longest(0, 1), 0);
        Due.is("gap 100000", x.longest(0, 100000), 0);
        Due.is("gap 100001", x.longest(0, 100001), -1);
        Due.is("of none", Lanes.of(3).longest(0, 1), -1);
        Due.is("lane", x.longest(1, 4), -1);
        for (int far : Lanes.FAR) {
            Due.is("gap far", x.longest(0, far), -1);
            Due.is("lane far", x.longest(far, 4), -1);
        }
    }

    /** 120 at the times 0 .. 119. */
    private static void asManyAsCanBe() {
        SlideFold x = Lanes.of(3);
        for (int i = 0; i < 3; i++) {
            x.burst(0, 40, 40 * i, 1);
        }
        Due.promise(18);
        Due.is("all", x.many(0, 0, 119), 120);
        Due.is("the newest", x.many(0, 119, 119), 1);
        Due.is("behind the newest", x.many(0, 120, 100000), 0);
        Due.promise(30);
        Due.is("each its own", x.panes(0, 1), 120);
        Due.is("all but the newest", x.panes(0, 119), 2);
        Due.is("all", x.panes(0, 120), 1);
        Due.promise(31);
        Due.is("of like ones the first", x.fullest(0, 1), 0);
        Due.is("119 and one", x.fullest(0, 119), 0);
        Due.promise(32);
        Due.is("each its own", x.sessions(0, 0), 120);
        Due.is("all", x.sessions(0, 1), 1);
        Due.promise(33);
        Due.is("the newest", x.session(0, 0, 119, 1), 119);
        Due.is("one more", x.session(0, 0, 120, 1), Lanes.NOTHING);
        Due.is("all", x.session(0, 1, 0, 1), 7140);
        Due.is("one more", x.session(0, 1, 1, 1), Lanes.NOTHING);
        Due.promise(34);
        Due.is("of like ones the oldest", x.longest(0, 0), 0);
        x.take(0, 60);
        Due.is("of 60 and 59 the older", x.longest(0, 1), 0);
        x.take(0, 0);
        x.take(0, 0);
        Due.is("of 58 and 59 the newer", x.longest(0, 1), 1);
    }
}
