/** Promises 39 to 44 and 50 to 52: watches, links, boxes, and what is told of all together. */
public final class TiesTest {
    public static void main(String[] args) {
        watch();
        rings();
        ringsWithinCalls();
        eightWatches();
        rang();
        watchesEnd();
        watchesStay();
        link();
        given();
        givenAtEdges();
        linkedByBurst();
        unlink();
        linked();
        linksEnd();
        keep();
        back();
        about();
        Due.end("TiesTest");
    }

    private static void watch() {
        Due.promise(39);
        SlideFold x = Lanes.of(3, 5, 3);
        Due.is("reached", x.watch(0, 0, 1, 8), 1);
        Due.is("not reached", x.watch(7, 0, 1, 9), 0);
        Due.is("the least bound", x.watch(1, 0, 1, Integer.MIN_VALUE), 1);
        Due.is("the most", x.watch(1, 0, 1, Integer.MAX_VALUE), 0);
        Due.is("watch 8", x.watch(8, 0, 1, 0), -1);
        Due.is("number", x.watch(2, 0, 4, 0), -1);
        Due.is("lane", x.watch(2, 1, 0, 0), -1);
        for (int far : Lanes.FAR) {
            Due.is("watch far", x.watch(far, 0, 1, 0), -1);
            Due.is("lane far", x.watch(2, far, 1, 0), -1);
            Due.is("what far", x.watch(2, 0, far, 0), -1);
        }
        Due.is("nothing done", x.rings(2), -1);
        Due.is("three are told", x.about(3), 3);
        x.watch(0, 1, 0, 0);
        Due.is("not told anew", x.rings(0), 0);
        x.open(1, 8, Lanes.HAND, 0, 0);
        Due.is("of none", x.watch(3, 1, 2, Integer.MIN_VALUE), 0);
        Lanes.add(x, 1, 5);
        Due.is("NOTHING", x.watch(4, 1, 1, Integer.MIN_VALUE), 0);
        Due.is("0 is a number", x.watch(4, 1, 2, 0), 1);
    }

    private static void rings() {
        Due.promise(40);
        SlideFold x = Lanes.of(3);
        x.watch(0, 0, 1, 10);
        Lanes.add(x, 0, 9);
        Due.is("less", x.rings(0), 0);
        Lanes.add(x, 0, 1);
        Due.is("the bound", x.rings(0), 1);
        Lanes.add(x, 0, 1);
        Due.is("still", x.rings(0), 1);
        Lanes.add(x, 0, -2);
        Due.is("no more", x.rings(0), 1);
        x.alter(0, 3, 5);
        Due.is("laid anew by alter", x.rings(0), 2);
        x.take(0, 0);
        Due.is("no more by take", x.rings(0), 2);
        x.alter(0, 0, 1);
        x.take(0, 0);
        x.alter(0, 0, -100);
        Due.is("not yet", x.rings(0), 2);
        x.take(0, 0);
        Due.is("not yet", x.rings(0), 2);
        x.alter(0, 0, 10);
        Due.is("by alter", x.rings(0), 3);
        x.watch(0, 0, 1, 10);
        Due.is("told anew", x.rings(0), 0);
        Lanes.add(x, 0, 1);
        Due.is("reached when it was told", x.rings(0), 0);
        Due.is("watch 8", x.rings(8), -1);
        Due.is("not told", x.rings(1), -1);
        for (int far : Lanes.FAR) {
            Due.is("far", x.rings(far), -1);
        }
        ringsByGoing();
    }

    private static void ringsByGoing() {
        SlideFold x = Lanes.of(3, -5, 4, -7, 9);
        x.watch(0, 0, 1, 4);
        x.watch(1, 0, 1, 7);
        x.watch(2, 0, 0, 0);
        x.leave(0, 4);
        Due.is("at one move of four", x.rings(0), 2);
        Due.is("at another", x.rings(1), 1);
        Due.is("at none", x.rings(2), 0);
        Lanes.add(x, 0, 4);
        Due.is("of none it was not reached", x.rings(2), 1);
        x.open(0, 3, Lanes.HAND, 0, 20);
        Lanes.addTimed(x, 0, 10, 1, 20, 1);
        x.watch(3, 0, 1, 3);
        x.come(0, 15, 1);
        Due.is("placed ahead", x.rings(3), 1);
        x.until(0, 10);
        x.come(0, 5, 1);
        Due.is("again", x.rings(3), 2);
        x.open(0, 3, Lanes.HAND, 0, 0);
        Lanes.add(x, 0, -3, 3, 3);
        x.watch(3, 0, 1, 4);
        x.until(0, 0);
        Due.is("until", x.rings(3), 1);
    }

    /** More than one move may stand within a call: each has an end at which a watch may ring. */
    private static void ringsWithinCalls() {
        SlideFold x = new SlideFold();
        x.open(0, 0, Lanes.COUNT, 3, 100);
        x.watch(0, 0, 3, 4);
        Lanes.addTimed(x, 0, 10, 1, 20, 2, 30, 3);
        Due.is("three are held", x.rings(0), 0);
        x.come(0, 40, 4);
        Due.is("four at the end of the first move", x.rings(0), 1);
        x.come(0, 35, 4);
        Due.is("four when laid anew", x.rings(0), 2);
        x.burst(0, 5, 1, 0);
        Due.is("each of a burst", x.rings(0), 7);
        Due.is("rang at the latest", x.rang(0), 45);
        x.open(0, 3, Lanes.TIME, 10, 100);
        Lanes.addTimed(x, 0, 10, 5, 15, -9, 16, 1);
        x.watch(0, 0, 1, 0);
        x.come(0, 25, 3);
        Due.is("0 with all, -5 without the first, 4 without the next", x.rings(0), 2);
    }

    private static void eightWatches() {
        Due.promise(40);
        SlideFold x = Lanes.of(3);
        for (int watch = 0; watch < 8; watch++) {
            x.watch(watch, 0, 1, watch + 1);
        }
        Lanes.add(x, 0, 5);
        for (int watch = 0; watch < 8; watch++) {
            Due.is("all on one lane", x.rings(watch), watch < 5 ? 1 : 0);
        }
        Due.is("in all", x.about(5), 5);
    }

    private static void rang() {
        Due.promise(41);
        SlideFold x = Lanes.of(3);
        x.watch(5, 0, 1, 10);
        Due.is("never", x.rang(5), -1);
        x.open(0, 3, Lanes.HAND, 0, 50);
        x.watch(5, 0, 1, 10);
        x.come(0, 70, 10);
        Due.is("NEWEST with it", x.rang(5), 70);
        x.come(0, 90, -10);
        x.come(0, 60, 20);
        Due.is("NEWEST, not its time", x.rang(5), 90);
        x.take(0, 0);
        Due.is("still", x.rang(5), 90);
        x.watch(5, 0, 1, 10);
        Due.is("told anew", x.rang(5), -1);
        x.come(0, 95, -20);
        x.take(0, 2);
        x.take(0, 1);
        x.alter(0, 0, 20);
        Due.is("NEWEST, though it was taken", x.rang(5), 95);
        Due.is("watch 8", x.rang(8), -1);
        Due.is("not told", x.rang(1), -1);
        for (int far : Lanes.FAR) {
            Due.is("far", x.rang(far), -1);
        }
    }

    private static void watchesEnd() {
        Due.promise(40);
        SlideFold x = Lanes.of(3, 1);
        x.open(1, 3, Lanes.HAND, 0, 0);
        x.watch(0, 0, 1, 5);
        x.watch(1, 1, 1, 5);
        x.open(0, 99, 0, 0, 0);
        Due.is("not opened", x.rings(0), 0);
        x.open(0, 3, Lanes.HAND, 0, 0);
        Due.is("opened", x.rings(0), -1);
        Due.is("opened", x.rang(0), -1);
        Due.is("the other one's", x.rings(1), 0);
        x.watch(0, 0, 1, 5);
        x.keep(0, 0);
        Due.is("kept", x.rings(0), 0);
        x.back(0);
        Due.is("gone back to", x.rings(0), -1);
        x.watch(0, 0, 1, 5);
        Lanes.add(x, 0, 7);
        Due.is("rang", x.rang(0), 0);
        x.shut(0);
        Due.is("shut", x.rings(0), -1);
        Due.is("shut", x.rang(0), -1);
        x.open(0, 3, Lanes.HAND, 0, 0);
        Due.is("not told again", x.rings(0), -1);
        Lanes.add(x, 1, 7);
        Due.is("the other one's", x.rings(1), 1);
    }

    /** One that is not opened, as the table does not associate, keeps its watches and links. */
    private static void watchesStay() {
        Due.promise(6);
        SlideFold x = Lanes.of(3, 1);
        x.open(1, 3, Lanes.HAND, 0, 0);
        x.table(15, 1);
        x.table(7, 2);
        x.watch(0, 0, 1, 5);
        x.link(0, 1, 5, 0);
        Due.is("does not associate", x.open(0, 9, 0, 0, 0), -1);
        Due.is("still told", x.rings(0), 0);
        Due.is("still linked", x.linked(0, 0), 1);
    }

    /** Lanes 0 .. 3 by RUN, by hand. */
    private static SlideFold four() {
        SlideFold x = new SlideFold();
        for (int lane = 0; lane < 4; lane++) {
            x.open(lane, 3, Lanes.HAND, 0, 1000);
        }
        return x;
    }

    private static void link() {
        Due.promise(42);
        SlideFold x = four();
        Due.is("gap 0", x.link(0, 1, 0, 3), true);
        Due.is("gap 100000, anew", x.link(0, 1, 100000, 0), true);
        Due.is("one", x.about(6), 1);
        Due.is("gap 100001", x.link(0, 1, 100001, 0), false);
        Due.is("number", x.link(0, 1, 5, 4), false);
        Due.is("itself", x.link(2, 2, 5, 0), false);
        Due.is("one to which one is linked", x.link(1, 2, 5, 0), false);
        Due.is("back", x.link(1, 0, 5, 0), false);
        Due.is("to one that is linked", x.link(2, 0, 5, 0), false);
        Due.is("another one to the same", x.link(2, 1, 5, 0), true);
        Due.is("still", x.linked(0, 1), 100000);
        for (int far : Lanes.FAR) {
            Due.is("lane far", x.link(far, 1, 5, 0), false);
            Due.is("other far", x.link(0, far, 5, 0), false);
            Due.is("gap far", x.link(0, 1, far, 0), false);
            Due.is("what far", x.link(0, 1, 5, far), false);
        }
        Due.is("to another one", x.link(0, 3, 7, 1), true);
        Due.is("two", x.about(6), 2);
        Due.is("to 3", x.linked(0, 0), 3);
        x.shut(1);
        Due.is("not open", x.link(2, 1, 5, 0), false);
        Due.is("not open", x.link(1, 3, 5, 0), false);
        x.open(1, 1, Lanes.HAND, 0, 0);
        Due.is("the number is that of its own operation", x.link(1, 3, 5, 2), false);
        Due.is("to another operation", x.link(1, 3, 5, 1), true);
    }

    private static void given() {
        Due.promise(42);
        SlideFold x = four();
        x.link(0, 1, 5, 1);
        Lanes.addTimed(x, 0, 10, 1, 15, 2);
        Due.is("the session goes on", x.lane(1, 4), 0);
        x.come(0, 20, 4);
        Due.is("by the gap", x.lane(1, 4), 0);
        x.come(0, 26, 8);
        Due.is("by more than the gap", x.lane(1, 4), 1);
        Due.is("its number", x.event(1, 0, 1), 7);
        Due.is("at the newest one's time", x.event(1, 0, 0), 20);
        x.come(0, 40, 16);
        Due.are("the session that ends alone", Lanes.values(x, 1), 7, 8);
        x.come(0, 30, 32);
        Due.is("placed ahead: nothing", x.lane(1, 4), 2);
        x.come(0, 46, 64);
        Due.are("from 40 on", Lanes.values(x, 1), 7, 8, 16);
        Due.are("times", Lanes.times(x, 1), 20, 26, 40);
        Due.are("the lane itself", Lanes.values(x, 0), 1, 2, 4, 8, 32, 16, 64);
        x.take(0, 6);
        x.take(0, 5);
        x.come(0, 50, 128);
        Due.are("what is held alone counts", Lanes.values(x, 1), 7, 8, 40, 16);
        Due.are("times", Lanes.times(x, 1), 20, 26, 30, 40);
        Due.is("came by it", x.linked(0, 3), 4);
        givenValues();
    }

    private static void givenValues() {
        SlideFold x = four();
        x.link(0, 1, 0, 1);
        Lanes.addTimed(x, 0, 1, 1000, 1, 1, 2, -1000, 2, -1, 3, 1000, 4, -1000, 5, 0);
        Due.are("held within", Lanes.values(x, 1), 1000, -1000, 1000, -1000);
        x.open(2, 8, Lanes.HAND, 0, 0);
        x.link(2, 3, 0, 0);
        Lanes.addTimed(x, 2, 1, -5, 2, 5, 3, 0, 4, 7);
        Due.are("not NOTHING", Lanes.values(x, 3), 5);
        Due.are("times", Lanes.times(x, 3), 2);
        Due.is("of none nothing", x.about(1), 7 + 4 + 4 + 1);
    }

    private static void givenAtEdges() {
        Due.promise(42);
        SlideFold x = four();
        x.open(1, 3, Lanes.HAND, 0, 0);
        x.come(1, 50, 1);
        x.link(0, 1, 0, 1);
        Lanes.addTimed(x, 0, 40, 1, 60, 2);
        Due.is("lost there", x.lane(1, 6), 1);
        Due.is("not held there", x.lane(1, 4), 1);
        Due.is("did not come by it", x.linked(0, 3), 0);
        Due.is("still comes here", x.lane(0, 4), 2);
        for (int i = 0; i < 119; i++) {
            x.come(1, 50, 1);
        }
        Due.is("full here", x.lane(1, 4), 120);
        x.come(0, 70, 4);
        Due.is("nothing given", x.linked(0, 3), 0);
        Due.is("nothing lost", x.lane(1, 6), 1);
        x.leave(1, 1);
        x.come(0, 80, 4);
        Due.is("given again", x.linked(0, 3), 1);
        Due.is("most behind a call there", x.lane(1, 10), 120);
        x.open(2, 3, Lanes.COUNT, 120, 1000);
        for (int i = 0; i < 120; i++) {
            x.come(2, 50, 1);
        }
        x.link(0, 2, 0, 1);
        x.come(0, 90, 4);
        Due.is("by count", x.linked(0, 3), 1);
        Due.is("by count", x.lane(2, 8), 1);
        refusedGivesNothing();
        givenDropsAndRings();
    }

    private static void refusedGivesNothing() {
        SlideFold x = four();
        x.link(0, 1, 0, 1);
        for (int i = 0; i < 120; i++) {
            x.come(0, 5, 1);
        }
        x.come(0, 10, 1);
        Due.is("refused", x.lane(1, 4), 0);
        x.leave(0, 1);
        x.come(0, 10, 1);
        Due.is("not refused", x.lane(1, 4), 1);
        x.leave(0, 120);
        x.come(0, 50, 1);
        Due.is("none is held", x.lane(1, 4), 1);
        // by count the oldest goes behind what is given
        x.open(2, 3, Lanes.COUNT, 2, 0);
        x.link(2, 3, 5, 1);
        Lanes.addTimed(x, 2, 10, 1, 11, 2, 20, 4);
        Due.are("with the one that goes", Lanes.values(x, 3), 3);
    }

    private static void givenDropsAndRings() {
        SlideFold x = four();
        x.open(1, 3, Lanes.COUNT, 1, 1000);
        x.watch(0, 1, 1, 5);
        x.link(0, 1, 0, 1);
        x.burst(0, 4, 6, -2);
        Due.are("one by one", Lanes.values(x, 1), 2);
        Due.is("dropped there", x.lane(1, 8), 2);
        Due.is("6, then 10, then 4, then 6 and 2", x.rings(0), 2);
        Due.is("NEWEST there", x.rang(0), 2);
        Due.is("three", x.linked(0, 3), 3);
    }

    private static void linkedByBurst() {
        Due.promise(42);
        SlideFold x = four();
        x.link(0, 1, 3, 1);
        x.come(0, 10, 5);
        x.burst(0, 3, 1, 0);
        Due.is("within the gap", x.lane(1, 4), 0);
        x.take(0, 3);
        x.take(0, 2);
        x.take(0, 1);
        x.burst(0, 3, 1, 0);
        Due.are("the first one alone is far", Lanes.values(x, 1), 5);
        Due.is("the most there behind a call", x.lane(1, 10), 1);
    }

    private static void unlink() {
        Due.promise(43);
        SlideFold x = four();
        x.link(0, 1, 0, 1);
        Due.is("none from there", x.unlink(1), false);
        Due.is("ends", x.unlink(0), true);
        Due.is("twice", x.unlink(0), false);
        Due.is("lane 4", x.unlink(4), false);
        for (int far : Lanes.FAR) {
            Due.is("far", x.unlink(far), false);
        }
        Lanes.addTimed(x, 0, 1, 1, 5, 1);
        Due.is("nothing given", x.lane(1, 4), 0);
        Due.is("none", x.about(6), 0);
        Due.is("free to be linked to", x.link(2, 0, 0, 0), true);
    }

    private static void linked() {
        Due.promise(44);
        SlideFold x = four();
        x.link(3, 1, 17, 2);
        Lanes.addTimed(x, 3, 1, 1, 50, 1, 100, 1);
        Due.is("to which", x.linked(3, 0), 1);
        Due.is("gap", x.linked(3, 1), 17);
        Due.is("number", x.linked(3, 2), 2);
        Due.is("came", x.linked(3, 3), 2);
        Due.is("what 4", x.linked(3, 4), -1);
        Due.is("none to", x.linked(1, 0), -1);
        Due.is("lane 4", x.linked(4, 0), -1);
        x.link(2, 1, 19, 3);
        x.unlink(2);
        for (int what = 0; what < 4; what++) {
            Due.is("none to", x.linked(0, what), -1);
            Due.is("no more", x.linked(2, what), -1);
        }
        for (int far : Lanes.FAR) {
            Due.is("what far", x.linked(3, far), -1);
            Due.is("lane far", x.linked(far, 0), -1);
        }
        x.link(3, 2, 18, 1);
        Due.is("anew", x.linked(3, 3), 0);
        Due.is("to which", x.linked(3, 0), 2);
        Due.is("gap", x.linked(3, 1), 18);
        Due.is("number", x.linked(3, 2), 1);
    }

    private static void linksEnd() {
        Due.promise(44);
        for (int lane = 0; lane < 2; lane++) {
            SlideFold x = four();
            x.link(0, 1, 0, 1);
            x.link(2, 3, 0, 1);
            x.keep(lane, 0);
            Due.is("kept", x.linked(0, 0), 1);
            x.open(lane, 3, 7, 0, 0);
            Due.is("not opened", x.linked(0, 0), 1);
            x.back(0);
            Due.is("gone back to", x.linked(0, 0), -1);
            x.link(0, 1, 0, 1);
            x.open(lane, 3, 0, 0, 0);
            Due.is("opened", x.linked(0, 0), -1);
            x.link(0, 1, 0, 1);
            x.shut(lane);
            Due.is("shut", x.linked(0, 0), -1);
            x.open(lane, 3, 0, 0, 0);
            Due.is("opened again", x.linked(0, 0), -1);
            Due.is("the others", x.linked(2, 0), 3);
            Due.is("one", x.about(6), 1);
        }
    }

    private static void keep() {
        Due.promise(50);
        SlideFold x = Lanes.of(3, 1, 2, 3);
        Due.is("kept", x.keep(0, 0), 3);
        Due.is("in two", x.keep(0, 2), 3);
        Due.is("box 3", x.keep(0, 3), -1);
        Due.is("lane", x.keep(1, 1), -1);
        for (int far : Lanes.FAR) {
            Due.is("box far", x.keep(0, far), -1);
            Due.is("lane far", x.keep(far, 1), -1);
        }
        Due.is("two boxes", x.about(4), 2);
        x.open(1, 3, Lanes.HAND, 0, 0);
        Due.is("another one in its place", x.keep(1, 0), 0);
        x.leave(0, 3);
        Due.is("the other lane", x.back(0), 0);
        Due.is("not this one", x.lane(0, 4), 0);
        Due.is("this one", x.back(2), 3);
        Due.is("the lane goes on by itself", x.leave(0, 1), 2);
        Due.is("the box keeps", x.back(2), 3);
    }

    private static void back() {
        Due.promise(51);
        SlideFold x = new SlideFold();
        x.open(2, 6, Lanes.COUNT, 7, 100);
        Lanes.addTimed(x, 2, 10, 1, 20, 1, 20, 2, 30, 5, 15, 4, 40, 3, 50, 6, 60, 7, 70, 7);
        x.come(2, 71, 3);
        x.come(2, 90, 3);
        x.come(2, 191, 3);
        x.come(2, 90, 3);
        x.come(2, 191, 4);
        x.come(2, 190, 4);
        x.burst(2, 3, 1, 1);
        x.come(2, 192, 8);
        Due.is("one was lost", x.lane(2, 6), 1);
        Due.is("the latest one placed ahead of two", x.lane(2, 9), 2);
        long[] lane = Lanes.lane(x, 2);
        long[] state = Lanes.state(x, 2);
        long[] values = Lanes.values(x, 2);
        long[] times = Lanes.times(x, 2);
        long[] orders = Lanes.told(x, 2, 2);
        long[] totals = Lanes.totals(x, 2, 7);
        x.keep(2, 1);
        x.burst(2, 5, 1, 1);
        x.alter(2, 0, 9);
        x.come(2, 1, 1);
        x.open(2, 0, Lanes.HAND, 0, 0);
        Lanes.add(x, 2, 1);
        x.shut(2);
        Due.is("shut", x.about(0), 0);
        for (int i = 0; i < 2; i++) {
            Due.is("back", x.back(1), 7);
            Due.is("open", x.about(0), 1);
            Due.are("lane", Lanes.lane(x, 2), lane);
            Due.are("state", Lanes.state(x, 2), state);
            Due.are("values", Lanes.values(x, 2), values);
            Due.are("times", Lanes.times(x, 2), times);
            Due.are("came ahead", Lanes.told(x, 2, 2), orders);
            Due.are("totals", Lanes.totals(x, 2, 7), totals);
            x.burst(2, 9, 3, 1);
            x.come(2, 15, 1);
        }
        Due.is("nothing kept", x.back(0), -1);
        Due.is("box 3", x.back(3), -1);
        for (int far : Lanes.FAR) {
            Due.is("far", x.back(far), -1);
        }
    }

    private static void about() {
        Due.promise(52);
        SlideFold x = Lanes.of(3, 1, 2, 3);
        x.open(2, 3, Lanes.HAND, 0, 0);
        Lanes.add(x, 2, 1, 2, 3, 4, 5, 6, 7);
        x.watch(0, 0, 1, 7);
        x.watch(5, 2, 3, 30);
        x.watch(6, 2, 1, 0);
        x.keep(0, 1);
        x.link(0, 2, 100000, 0);
        Lanes.add(x, 0, 4, -4, 4);
        Lanes.add(x, 2, 4);
        Due.are("all", abouts(x), 2, 14, 16, 3, 1, 3, 1);
        x.shut(0);
        Due.are("one lane", abouts(x), 1, 8, 11, 2, 1, 1, 0);
        x.back(1);
        Due.are("gone back to", abouts(x), 2, 11, 14, 2, 1, 1, 0);
        Due.is("what 7", x.about(7), -1);
        for (int far : Lanes.FAR) {
            Due.is("far", x.about(far), -1);
        }
    }

    private static long[] abouts(SlideFold x) {
        long[] all = new long[7];
        for (int i = 0; i < all.length; i++) {
            all[i] = x.about(i);
        }
        return all;
    }
}
