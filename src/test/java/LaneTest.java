/** Promises 6 to 14 and 38: lanes, and the events that come, go, are taken and altered. */
public final class LaneTest {
    public static void main(String[] args) {
        open();
        shut();
        comeByHand();
        comeByCount();
        comeByTime();
        burst();
        leave();
        until();
        take();
        alter();
        event();
        lane();
        Due.end("LaneTest");
    }

    private static void open() {
        Due.promise(6);
        SlideFold x = new SlideFold();
        Due.is("by hand, whatever the size", x.open(0, 0, 0, -7, 0), 1);
        Due.is("size by hand", x.lane(0, 2), 0);
        Due.is("by count 1", x.open(3, 8, 1, 1, 10000), 2);
        Due.is("by count 120", x.open(3, 8, 1, 120, 0), 2);
        Due.is("by time 1", x.open(1, 1, 2, 1, 0), 3);
        Due.is("by time 10000", x.open(2, 9, 2, 10000, 0), 4);
        Due.is("by count 0", x.open(2, 1, 1, 0, 0), -1);
        Due.is("by count 121", x.open(2, 1, 1, 121, 0), -1);
        Due.is("by time 0", x.open(2, 1, 2, 0, 0), -1);
        Due.is("by time 10001", x.open(2, 1, 2, 10001, 0), -1);
        Due.is("slack 10001", x.open(2, 1, 0, 0, 10001), -1);
        Due.is("operation 10", x.open(2, 10, 0, 0, 0), -1);
        Due.is("by 3", x.open(2, 1, 3, 5, 0), -1);
        Due.is("lane 4", x.open(4, 1, 0, 0, 0), -1);
        for (int far : Lanes.FAR) {
            Due.is("lane far", x.open(far, 1, 0, 0, 0), -1);
            Due.is("operation far", x.open(2, far, 0, 0, 0), -1);
            Due.is("by far", x.open(2, 1, far, 5, 0), -1);
            Due.is("count far", x.open(2, 1, 1, far, 0), -1);
            Due.is("time far", x.open(2, 1, 2, far, 0), -1);
            Due.is("slack far", x.open(2, 1, 0, 0, far), -1);
            Due.is("size far by hand", x.open(0, 0, 0, far, 0), 4);
        }
        Due.are("nothing done", Lanes.lane(x, 2), 9, 2, 10000, 0, 0, -1, 0, 0, 0, 0, 0);
        openAnew();
        openByTable();
    }

    private static void openAnew() {
        SlideFold x = Lanes.timed(3, 5, 10, 1, 8, 2, 3, 9, 12, 4);
        Lanes.add(x, 0, 1, 1, 1, 1, 1, 1);
        x.leave(0, 1);
        x.come(0, x.lane(0, 5) - 1, 3);
        x.burst(0, 12, 1, 0);
        Due.is("a flip goes on", x.state(0, 3) > 0, true);
        Due.is("the latest one placed ahead, then behind", x.lane(0, 9), 0);
        x.open(1, 3, Lanes.HAND, 0, 5);
        Lanes.addTimed(x, 1, 10, 1, 8, 2);
        Due.is("ahead of one", x.lane(1, 9), 1);
        x.open(1, 3, Lanes.HAND, 0, 5);
        Due.is("anew", x.lane(1, 9), 0);
        Due.are("anew", Lanes.state(x, 1), 0, 0, 0, 0, 0, 0, 0);
        x.shut(1);
        Due.is("anew", x.open(0, 2, 2, 40, 6), 1);
        Due.are("all anew", Lanes.lane(x, 0), 2, 2, 40, 6, 0, -1, 0, 0, 0, 0, 0);
        Due.are("all anew", Lanes.state(x, 0), 0, 0, 0, 0, 0, 0, 0);
        Due.is("come from 0 on", x.burst(0, 1, 5, 0), 1);
        Due.are("anew", Lanes.times(x, 0), 0);
        Due.are("anew", Lanes.told(x, 0, 2), 0);
    }

    private static void openByTable() {
        SlideFold x = new SlideFold();
        x.table(15, 1);
        x.table(7, 2);
        Due.is("does not associate", x.open(0, 9, 0, 0, 0), -1);
        Due.is("not open", x.lane(0, 0), -1);
        Due.is("another operation", x.open(0, 8, 0, 0, 0), 1);
        Lanes.add(x, 0, 5);
        Due.is("not anew", x.open(0, 9, 0, 0, 0), -1);
        Due.is("still open", x.lane(0, 4), 1);
        x.table(7, 0);
        x.table(15, 0);
        Due.is("associates again", x.open(0, 9, 0, 0, 0), 1);
    }

    private static void shut() {
        Due.promise(7);
        SlideFold x = Lanes.of(0, 1, 2, 3);
        x.open(2, 1, 0, 0, 0);
        Due.is("not open", x.shut(1), false);
        Due.is("lane 4", x.shut(4), false);
        for (int far : Lanes.FAR) {
            Due.is("far", x.shut(far), false);
        }
        Due.is("open lanes", x.about(0), 2);
        Due.is("shut", x.shut(0), true);
        Due.is("twice", x.shut(0), false);
        Due.is("one left", x.about(0), 1);
        Due.is("held in all", x.about(1), 0);
        Due.is("none such", x.lane(0, 4), -1);
        Due.is("none such", x.come(0, 50, 1), -1);
        Due.is("opened again", x.open(0, 0, 0, 0, 0), 2);
        Due.is("empty", x.lane(0, 4), 0);
    }

    private static void comeByHand() {
        Due.promise(8);
        SlideFold x = new SlideFold();
        Due.is("not open", x.come(0, 1, 1), -1);
        x.open(0, 3, 0, 0, 10);
        Due.is("first", x.come(0, 100, 1), 1);
        Due.is("of like time: behind", x.come(0, 100, 2), 2);
        Due.is("late as can be", x.come(0, 90, 3), 3);
        Due.is("too late", x.come(0, 89, 4), -2);
        Due.is("late, of like time", x.come(0, 90, 5), 4);
        Due.is("between", x.come(0, 95, 6), 5);
        Due.is("behind all", x.come(0, 100000, -1000), 6);
        Due.are("times", Lanes.times(x, 0), 90, 90, 95, 100, 100, 100000);
        Due.are("values", Lanes.values(x, 0), 3, 5, 6, 1, 2, -1000);
        Due.is("time", x.come(0, 100001, 1), -1);
        Due.is("value", x.come(0, 100000, 1001), -1);
        Due.is("value", x.come(0, 100000, -1001), -1);
        Due.is("a wrong value is not lost", x.come(0, 1, 1001), -1);
        for (int far : Lanes.FAR) {
            Due.is("lane far", x.come(far, 100000, 1), -1);
            Due.is("time far", x.come(0, far, 1), -1);
        }
        for (int value : new int[] {Integer.MIN_VALUE, Integer.MAX_VALUE, 4000}) {
            Due.is("value far", x.come(0, 100000, value), -1);
        }
        Due.are("lane", Lanes.lane(x, 0), 3, 0, 0, 10, 6, 100000, 1, 6, 0, 0, 6);
        afterTaken();
        full();
    }

    /** NEWEST stays when the newest one is taken; one that is behind all that are held is added then. */
    private static void afterTaken() {
        SlideFold x = Lanes.timed(3, 10, 50, 1, 60, 2);
        x.take(0, 1);
        Due.is("too late by NEWEST", x.come(0, 49, 3), -2);
        Due.is("ahead of NEWEST, behind all", x.come(0, 55, 3), 2);
        Due.is("NEWEST", x.lane(0, 5), 60);
        Due.is("placed behind all", x.lane(0, 9), 0);
        Due.are("a move, not laid anew", Lanes.state(x, 0), 1, 0, 1, 0, 0, 0, 0);
    }

    private static void full() {
        SlideFold x = Lanes.of(3);
        x.burst(0, 40, 1, 0);
        x.burst(0, 40, 1, 0);
        x.burst(0, 39, 1, 0);
        Due.is("119 and one", x.come(0, 118, 1), 120);
        Due.is("full", x.come(0, 118, 1), -1);
        Due.is("full, not lost", x.come(0, 200, 1), -1);
        Due.is("lost ahead of full", x.come(0, 117, 1), -2);
        Due.are("lane", Lanes.lane(x, 0), 3, 0, 0, 0, 120, 118, 1, 120, 0, 0, 120);
        x.open(1, 3, 2, 5, 0);
        for (int i = 0; i < 120; i++) {
            x.come(1, 7, 1);
        }
        Due.is("by time, full, though all would go", x.come(1, 5000, 1), -1);
        Due.is("by time", x.lane(1, 4), 120);
    }

    private static void comeByCount() {
        Due.promise(8);
        SlideFold x = new SlideFold();
        x.open(0, 3, 1, 3, 10);
        Lanes.addTimed(x, 0, 10, 1, 20, 2, 30, 3);
        Due.is("the oldest goes", x.come(0, 40, 4), 3);
        Due.are("values", Lanes.values(x, 0), 2, 3, 4);
        Due.is("late and placed", x.come(0, 30, 5), 3);
        Due.are("values", Lanes.values(x, 0), 3, 5, 4);
        Due.is("ahead of one", x.lane(0, 9), 1);
        Due.is("late, oldest, goes itself", x.open(1, 3, 1, 2, 100), 2);
        Lanes.addTimed(x, 1, 10, 1, 20, 2);
        Due.is("late", x.come(1, 5, 3), 2);
        Due.are("values", Lanes.values(x, 1), 1, 2);
        Due.are("lane", Lanes.lane(x, 1), 3, 1, 2, 100, 2, 20, 0, 3, 1, 2, 2);
        x.open(2, 3, 1, 120, 0);
        for (int i = 0; i < 120; i++) {
            x.come(2, 1, i);
        }
        Due.is("by count never full", x.come(2, 1, 500), 120);
        Due.is("the oldest went", x.event(2, 0, 1), 1);
        Due.is("the newest", x.event(2, 119, 1), 500);
        Due.is("most behind a call", x.lane(2, 10), 120);
    }

    private static void comeByTime() {
        Due.promise(8);
        SlideFold x = new SlideFold();
        x.open(0, 3, 2, 10, 100);
        Lanes.addTimed(x, 0, 100, 1, 101, 2, 101, 3, 105, 4);
        Due.is("not yet", x.come(0, 109, 5), 5);
        Due.is("at its size", x.come(0, 110, 6), 5);
        Due.are("values", Lanes.values(x, 0), 2, 3, 4, 5, 6);
        Due.is("two at once", x.come(0, 111, 7), 4);
        Due.is("late and gone at once", x.come(0, 101, 8), 4);
        Due.is("late and held", x.come(0, 102, 9), 5);
        Due.are("times", Lanes.times(x, 0), 102, 105, 109, 110, 111);
        Due.are("lane", Lanes.lane(x, 0), 3, 2, 10, 100, 5, 111, 0, 9, 4, 4, 5);
        Due.is("all but itself", x.come(0, 1000, 0), 1);
        x.leave(0, 1);
        Due.is("late, alone, and gone", x.come(0, 990, 1), 0);
        Due.is("late, alone, and held", x.come(0, 991, 1), 1);
    }

    private static void burst() {
        Due.promise(9);
        SlideFold x = Lanes.of(3);
        Due.is("from 0 on", x.burst(0, 3, -4, 3), 3);
        Due.are("times", Lanes.times(x, 0), 0, 1, 2);
        Due.are("values", Lanes.values(x, 0), -4, -1, 2);
        x.come(0, 50, 0);
        x.take(0, 3);
        Due.is("behind NEWEST", x.burst(0, 2, 1000, -1000), 5);
        Due.are("times", Lanes.times(x, 0), 0, 1, 2, 51, 52);
        Due.are("values", Lanes.values(x, 0), -4, -1, 2, 1000, 0);
        Due.is("none", x.burst(0, 0, 1, 1), -1);
        Due.is("41", x.burst(0, 41, 1, 0), -1);
        Due.is("step 1001", x.burst(0, 1, 1, 1001), -1);
        Due.is("step -1001", x.burst(0, 1, 1, -1001), -1);
        Due.is("step 1000", x.burst(0, 1, 1, 1000), 6);
        Due.is("first value", x.burst(0, 2, 1001, -1), -1);
        Due.is("first value", x.burst(0, 2, -1001, 1), -1);
        Due.is("last value", x.burst(0, 3, 999, 1), -1);
        Due.is("last value", x.burst(0, 3, -999, -1), -1);
        Due.is("lane 1", x.burst(1, 1, 1, 1), -1);
        for (int far : Lanes.FAR) {
            Due.is("lane far", x.burst(far, 1, 1, 1), -1);
            Due.is("many far", x.burst(0, far, 1, 1), -1);
        }
        for (int far : new int[] {Integer.MIN_VALUE, Integer.MAX_VALUE, 2000000000, -1000000000}) {
            Due.is("value far", x.burst(0, 2, far, 1), -1);
            Due.is("step far", x.burst(0, 2, 1, far), -1);
        }
        Due.is("nothing done", x.lane(0, 4), 6);
        burstAtEnds();
        burstOfValuesAtEnds();
    }

    private static void burstAtEnds() {
        SlideFold x = Lanes.timed(3, 0, 99998, 1);
        Due.is("time", x.burst(0, 3, 1, 0), -1);
        Due.is("last time", x.burst(0, 2, 1, 0), 3);
        x = Lanes.of(3);
        x.burst(0, 40, 1, 0);
        x.burst(0, 40, 1, 0);
        x.burst(0, 30, 1, 0);
        Due.is("121", x.burst(0, 11, 1, 0), -1);
        Due.is("120", x.burst(0, 10, 1, 0), 120);
        x.open(1, 3, 2, 1, 0);
        for (int i = 0; i < 100; i++) {
            x.come(1, 5, 1);
        }
        Due.is("by time, though they go", x.burst(1, 21, 1, 0), -1);
        Due.is("by time", x.burst(1, 20, 1, 0), 1);
        Due.is("behind a call alone", x.lane(1, 10), 100);
        x.open(2, 3, 1, 120, 0);
        for (int i = 0; i < 3; i++) {
            x.burst(2, 40, i, 0);
        }
        Due.is("by count", x.burst(2, 40, 7, 0), 120);
        Due.is("the oldest went", x.event(2, 0, 2), 40);
        transientMost();
    }

    private static void burstOfValuesAtEnds() {
        SlideFold x = Lanes.of(3);
        Due.is("up to 1000", x.burst(0, 3, 998, 1), 3);
        Due.is("down to -1000", x.burst(0, 3, -998, -1), 6);
        Due.is("all the way down", x.burst(0, 3, 1000, -1000), 9);
        Due.is("all the way up", x.burst(0, 3, -1000, 1000), 12);
        Due.is("one of 1000, whatever the step", x.burst(0, 1, 1000, 1000), 13);
        Due.is("one of -1000, whatever the step", x.burst(0, 1, -1000, -1000), 14);
        Due.are("values", Lanes.values(x, 0), 998, 999, 1000, -998, -999, -1000, 1000, 0, -1000, -1000, 0, 1000, 1000,
            -1000);
        Due.is("40 of like value", x.burst(0, 40, 1000, 0), 54);
        x.open(1, 3, Lanes.COUNT, 1, 0);
        Due.is("40, of which one is held", x.burst(1, 40, 1, 1), 1);
        Due.is("the newest", x.event(1, 0, 1), 40);
        Due.is("the others went", x.lane(1, 8), 39);
        x = Lanes.timed(3, 0, 100000, 1);
        Due.is("behind the last time", x.burst(0, 1, 1, 0), -1);
        x = Lanes.timed(3, 0, 99999, 1);
        Due.is("at the last time", x.burst(0, 1, 1, 0), 2);
        Due.is("NEWEST", x.lane(0, 5), 100000);
    }

    /** Within a burst more may be held for a while than behind it. */
    private static void transientMost() {
        SlideFold x = new SlideFold();
        x.open(0, 3, 2, 5, 0);
        for (int i = 0; i < 10; i++) {
            x.come(0, 0, 1);
        }
        Due.is("a while 14 are held", x.burst(0, 10, 1, 0), 5);
        Due.is("the most behind a call", x.lane(0, 10), 10);
    }

    private static void leave() {
        Due.promise(10);
        SlideFold x = Lanes.of(3, 1, 2, 3, 4, 5);
        Due.is("none", x.leave(0, 0), 5);
        Due.is("two", x.leave(0, 2), 3);
        Due.are("values", Lanes.values(x, 0), 3, 4, 5);
        Due.is("too many", x.leave(0, 4), -1);
        Due.is("less than 0", x.leave(0, -1), -1);
        Due.is("lane 1", x.leave(1, 0), -1);
        for (int far : Lanes.FAR) {
            Due.is("lane far", x.leave(far, 0), -1);
            Due.is("many far", x.leave(0, far), -1);
        }
        Due.is("nothing done", x.lane(0, 8), 2);
        Due.is("all", x.leave(0, 3), 0);
        Due.is("of none none", x.leave(0, 0), 0);
        Due.is("of none one", x.leave(0, 1), -1);
        Due.are("lane", Lanes.lane(x, 0), 3, 0, 0, 0, 0, 4, 0, 5, 5, 0, 5);
    }

    private static void until() {
        Due.promise(11);
        SlideFold x = Lanes.timed(3, 0, 5, 1, 6, 2, 6, 3, 8, 4, 9, 5);
        Due.is("ahead of all", x.until(0, 4), 0);
        Due.is("this time too", x.until(0, 6), 3);
        Due.are("values", Lanes.values(x, 0), 4, 5);
        Due.is("again", x.until(0, 7), 0);
        Due.is("least", x.until(0, Integer.MIN_VALUE), 0);
        Due.is("lane 1", x.until(1, 5), -1);
        Due.is("dropped", x.lane(0, 8), 3);
        for (int far : Lanes.FAR) {
            Due.is("lane far", x.until(far, 0), -1);
        }
        Due.is("all", x.until(0, Integer.MAX_VALUE), 2);
        Due.is("of none", x.until(0, Integer.MAX_VALUE), 0);
    }

    private static void take() {
        Due.promise(12);
        SlideFold x = Lanes.of(3, 1, 2, 3, 4, 5);
        Due.is("in the middle", x.take(0, 2), 3);
        Due.are("values", Lanes.values(x, 0), 1, 2, 4, 5);
        Due.are("times", Lanes.times(x, 0), 0, 1, 3, 4);
        Due.are("came ahead", Lanes.told(x, 0, 2), 0, 1, 3, 4);
        Due.is("behind", x.take(0, 4), Lanes.NOTHING);
        Due.is("lane 1", x.take(1, 0), Lanes.NOTHING);
        for (int far : Lanes.FAR) {
            Due.is("event far", x.take(0, far), Lanes.NOTHING);
            Due.is("lane far", x.take(far, 0), Lanes.NOTHING);
        }
        Due.is("newest", x.take(0, 3), 5);
        Due.is("oldest", x.take(0, 0), 1);
        Due.are("values", Lanes.values(x, 0), 2, 4);
        Due.are("lane: none dropped", Lanes.lane(x, 0), 3, 0, 0, 0, 2, 4, 0, 5, 0, 0, 5);
        Due.are("state", Lanes.state(x, 0), 2, 0, 0, 0, 1, 10, 3);
        takeOfMost();
        x.take(0, 0);
        Due.is("the last one", x.take(0, 0), 4);
        Due.is("of none", x.take(0, 0), Lanes.NOTHING);
    }

    private static void takeOfMost() {
        SlideFold x = Lanes.of(3);
        for (int i = 0; i < 3; i++) {
            x.burst(0, 40, 40 * i, 1);
        }
        Due.is("far behind", x.take(0, 100), 100);
        Due.is("the newest", x.take(0, 118), 119);
        Due.is("the oldest", x.take(0, 0), 0);
        Due.is("next to what was taken", x.take(0, 98), 99);
        Due.is("next to what was taken", x.take(0, 98), 101);
        Due.is("held", x.lane(0, 4), 115);
        Due.is("the newest now", x.event(0, 114, 1), 118);
    }

    private static void alter() {
        Due.promise(13);
        SlideFold x = Lanes.of(3, 1, 2, 3);
        Due.is("altered", x.alter(0, 1, -1000), true);
        Due.is("altered", x.alter(0, 2, 1000), true);
        Due.are("values", Lanes.values(x, 0), 1, -1000, 1000);
        Due.are("times", Lanes.times(x, 0), 0, 1, 2);
        Due.are("came ahead", Lanes.told(x, 0, 2), 0, 1, 2);
        int spent = x.state(0, 5);
        Due.is("the same value", x.alter(0, 0, 1), true);
        Due.is("laid anew all the same", x.state(0, 5), spent + 2);
        Due.is("value", x.alter(0, 0, 1001), false);
        Due.is("value", x.alter(0, 0, -1001), false);
        Due.is("event", x.alter(0, 3, 1), false);
        Due.is("lane", x.alter(1, 0, 1), false);
        for (int far : Lanes.FAR) {
            Due.is("event far", x.alter(0, far, 1), false);
            Due.is("lane far", x.alter(far, 0, 1), false);
        }
        Due.is("value far", x.alter(0, 0, Integer.MAX_VALUE), false);
        Due.is("value far", x.alter(0, 0, Integer.MIN_VALUE), false);
        Due.is("nothing done", x.state(0, 5), spent + 2);
        Due.are("values", Lanes.values(x, 0), 1, -1000, 1000);
    }

    private static void event() {
        Due.promise(14);
        SlideFold x = Lanes.timed(3, 10, 20, 1, 15, 2, 2, 9, 25, 3);
        Due.are("times", Lanes.times(x, 0), 15, 20, 25);
        Due.are("values", Lanes.values(x, 0), 2, 1, 3);
        Due.are("came ahead: not the lost one", Lanes.told(x, 0, 2), 1, 0, 2);
        x.leave(0, 2);
        x.come(0, 26, 4);
        Due.are("since it was opened", Lanes.told(x, 0, 2), 2, 3);
        Due.is("what 3", x.event(0, 0, 3), Lanes.NOTHING);
        Due.is("event 2", x.event(0, 2, 0), Lanes.NOTHING);
        Due.is("lane 1", x.event(1, 0, 0), Lanes.NOTHING);
        for (int far : Lanes.FAR) {
            Due.is("what far", x.event(0, 0, far), Lanes.NOTHING);
            Due.is("event far", x.event(0, far, 0), Lanes.NOTHING);
            Due.is("lane far", x.event(far, 0, 0), Lanes.NOTHING);
        }
    }

    private static void lane() {
        Due.promise(38);
        SlideFold x = new SlideFold();
        x.open(3, 7, 1, 4, 20);
        Due.are("opened", Lanes.lane(x, 3), 7, 1, 4, 20, 0, -1, 0, 0, 0, 0, 0);
        Lanes.addTimed(x, 3, 30, 1, 40, 2, 19, 3, 20, 3, 50, 4);
        Due.are("one was lost", Lanes.lane(x, 3), 7, 1, 4, 20, 4, 50, 1, 4, 0, 0, 4);
        x.come(3, 45, 5);
        Due.are("one went", Lanes.lane(x, 3), 7, 1, 4, 20, 4, 50, 1, 5, 1, 1, 4);
        x.come(3, 29, 5);
        Due.are("a lost one is not placed", Lanes.lane(x, 3), 7, 1, 4, 20, 4, 50, 2, 5, 1, 1, 4);
        x.come(3, 31, 5);
        Due.are("ahead of three", Lanes.lane(x, 3), 7, 1, 4, 20, 4, 50, 2, 6, 2, 3, 4);
        x.leave(3, 3);
        Due.are("three more went", Lanes.lane(x, 3), 7, 1, 4, 20, 1, 50, 2, 6, 5, 3, 4);
        x.take(3, 0);
        Due.are("one was taken", Lanes.lane(x, 3), 7, 1, 4, 20, 0, 50, 2, 6, 5, 3, 4);
        x.come(3, 50, 1);
        Due.are("behind all", Lanes.lane(x, 3), 7, 1, 4, 20, 1, 50, 2, 7, 5, 0, 4);
        Due.is("what 11", x.lane(3, 11), -1);
        Due.is("lane 2", x.lane(2, 0), -1);
        for (int far : Lanes.FAR) {
            Due.is("what far", x.lane(3, far), -1);
            Due.is("lane far", x.lane(far, 0), -1);
        }
    }
}
