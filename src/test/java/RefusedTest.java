import java.util.function.ToLongFunction;

/**
 * All promises: a call that is refused answers what the document says and does nothing, a lane that is not open is
 * none such for every call, and a call that asks changes nothing.
 */
public final class RefusedTest {
    private static final int NONE = Lanes.NONE;
    private static final int NOTHING = Lanes.NOTHING;
    private static final int FALSE = 0;
    private static final int LEAST = Integer.MIN_VALUE;
    private static final int MOST = Integer.MAX_VALUE;
    /** In busy() lane 2 was never opened, and lane 3 is shut. */
    private static final int[] NO_LANES = {2, 3, 4, -1, LEAST, MOST};

    private static String busy;

    /** A call on a lane, the other arguments being such as can be. */
    private interface OnLane {
        long on(SlideFold x, int lane);
    }

    public static void main(String[] args) {
        busy = all(busy());
        tablesAndLetters();
        lanes();
        events();
        searches();
        times();
        ties();
        noLaneThatComes();
        noLaneThatIsAsked();
        noLaneOfTwo();
        asked();
        Due.end("RefusedTest");
    }

    private static void refused(String call, long due, ToLongFunction<SlideFold> calls) {
        SlideFold x = busy();
        Due.is(call, calls.applyAsLong(x), due);
        String now = all(x);
        Due.is(call + " does nothing: " + busy + " / " + now, now.equals(busy), true);
    }

    private static void noLane(String call, long due, OnLane calls) {
        for (int lane : NO_LANES) {
            refused(call + " of lane " + lane, due, x -> calls.on(x, lane));
        }
    }

    private static long told(boolean answer) {
        return answer ? 1 : 0;
    }

    /** Two lanes in use, one linked to the other, boxes 0 and 2 and watches 0 and 3. */
    private static SlideFold busy() {
        SlideFold x = new SlideFold();
        x.table(5, 1);
        x.letter(1, 27);
        x.open(0, 3, Lanes.HAND, 0, 10);
        x.open(1, 9, Lanes.COUNT, 3, 5);
        x.open(3, 4, Lanes.HAND, 0, 0);
        Lanes.add(x, 3, 1, 2);
        x.keep(3, 2);
        x.shut(3);
        x.watch(0, 0, 1, 15);
        x.watch(3, 1, 0, 1);
        x.link(0, 1, 5, 1);
        x.burst(0, 3, -3, 2);
        x.come(0, 20, 3);
        x.come(0, 9, 3);
        x.burst(0, 6, 7, 1);
        x.leave(0, 1);
        Lanes.addTimed(x, 1, 4, 1, 9, 3, 8, 2, 3, 1);
        x.keep(0, 0);
        return x;
    }

    /** All that an object tells of how it stands. */
    private static String all(SlideFold x) {
        StringBuilder to = new StringBuilder();
        for (int what = 0; what < 7; what++) {
            to.append(x.about(what)).append(' ');
        }
        for (int what = 0; what < 4; what++) {
            to.append(x.triple(what)).append(' ').append(x.element(what)).append(' ');
        }
        for (int lane = 0; lane < 4; lane++) {
            tellLane(x, lane, to);
        }
        for (int watch = 0; watch < 8; watch++) {
            to.append(x.rings(watch)).append(' ').append(x.rang(watch)).append(' ');
        }
        return to.toString();
    }

    private static void tellLane(SlideFold x, int lane, StringBuilder to) {
        to.append('[');
        if (x.lane(lane, 0) != NONE) {
            for (int what = 0; what < 11; what++) {
                to.append(x.lane(lane, what)).append(' ');
            }
            for (int what = 0; what < 7; what++) {
                to.append(x.state(lane, what)).append(' ');
            }
            for (int event = 0; event < x.lane(lane, 4); event++) {
                to.append(x.event(lane, event, 0)).append(':').append(x.event(lane, event, 1)).append(' ');
            }
        }
        for (int what = 0; what < 4; what++) {
            to.append(x.linked(lane, what)).append(' ');
        }
        to.append("] ");
    }

    private static void tablesAndLetters() {
        Due.promise(2);
        refused("table in use", FALSE, x -> told(x.table(0, 1)));
        refused("table in use, the element that is there", FALSE, x -> told(x.table(5, 1)));
        refused("table in use, none such", FALSE, x -> told(x.table(16, 1)));
        Due.promise(3);
        refused("letter in a box", FALSE, x -> told(x.letter(1, 0)));
        Due.promise(4);
        for (int far : new int[] {-1, 4, LEAST, MOST}) {
            refused("triple " + far, NONE, x -> x.triple(far));
            refused("element " + far, NONE, x -> x.element(far));
        }
    }

    private static void lanes() {
        Due.promise(6);
        for (int far : new int[] {-1, 4, LEAST, MOST}) {
            refused("open, lane " + far, NONE, x -> x.open(far, 3, 0, 0, 0));
        }
        for (int far : new int[] {-1, 10, LEAST, MOST}) {
            refused("open, operation " + far, NONE, x -> x.open(0, far, 0, 0, 0));
        }
        for (int far : new int[] {-1, 3, LEAST, MOST}) {
            refused("open, by " + far, NONE, x -> x.open(0, 3, far, 5, 0));
        }
        for (int far : new int[] {-1, 0, 121, LEAST, MOST}) {
            refused("open by count " + far, NONE, x -> x.open(0, 3, Lanes.COUNT, far, 0));
        }
        for (int far : new int[] {-1, 0, 10001, LEAST, MOST}) {
            refused("open by time " + far, NONE, x -> x.open(0, 3, Lanes.TIME, far, 0));
        }
        for (int far : new int[] {-1, 10001, LEAST, MOST}) {
            refused("open, slack " + far, NONE, x -> x.open(2, 3, 0, 0, far));
        }
        Due.promise(7);
        noLane("shut", FALSE, (x, lane) -> told(x.shut(lane)));
        Due.promise(38);
        for (int far : new int[] {-1, 11, LEAST, MOST}) {
            refused("lane, what " + far, NONE, x -> x.lane(0, far));
        }
        for (int far : new int[] {-1, 7, LEAST, MOST}) {
            refused("state, what " + far, NONE, x -> x.state(0, far));
            refused("about, what " + far, NONE, x -> x.about(far));
        }
        for (int far : new int[] {-1, 2, LEAST, MOST}) {
            refused("soon, what " + far, NONE, x -> x.soon(0, far));
            refused("cost, what " + far, NONE, x -> x.cost(0, 5, far));
        }
        for (int far : new int[] {-1, 201, LEAST, MOST}) {
            refused("cost of " + far, NONE, x -> x.cost(0, far, 0));
        }
    }

    private static void events() {
        Due.promise(8);
        for (int far : new int[] {-1, 100001, LEAST, MOST}) {
            refused("come, time " + far, NONE, x -> x.come(0, far, 1));
            refused("were, time " + far, NOTHING, x -> x.were(0, far, 1, 1));
        }
        for (int far : new int[] {-1001, 1001, LEAST, MOST}) {
            refused("come, value " + far, NONE, x -> x.come(0, 50, far));
            refused("come too late, value " + far, NONE, x -> x.come(0, 1, far));
            refused("were, value " + far, NOTHING, x -> x.were(0, 50, far, 1));
            refused("alter, value " + far, FALSE, x -> told(x.alter(0, 0, far)));
            refused("burst, value " + far, NONE, x -> x.burst(0, 1, far, 0));
            refused("burst, step " + far, NONE, x -> x.burst(0, 1, 0, far));
        }
        Due.promise(9);
        for (int far : new int[] {-1, 0, 41, LEAST, MOST}) {
            refused("burst of " + far, NONE, x -> x.burst(0, far, 0, 0));
            refused("burst by count of " + far, NONE, x -> x.burst(1, far, 0, 0));
        }
        refused("burst beyond 1000", NONE, x -> x.burst(0, 3, 999, 1));
        refused("burst beyond -1000", NONE, x -> x.burst(0, 3, -999, -1));
        refused("burst back from beyond", NONE, x -> x.burst(0, 3, 1001, -1));
        Due.promise(10);
        refused("leave none", 9, x -> x.leave(0, 0));
        for (int far : new int[] {-1, 10, LEAST, MOST}) {
            refused("leave " + far, NONE, x -> x.leave(0, far));
        }
        for (int far : new int[] {-1, 9, LEAST, MOST}) {
            refused("take " + far, NOTHING, x -> x.take(0, far));
            refused("alter " + far, FALSE, x -> told(x.alter(0, far, 1)));
            refused("event " + far, NOTHING, x -> x.event(0, far, 0));
            refused("without " + far, NOTHING, x -> x.without(0, far, 1));
            refused("commutes " + far, NONE, x -> x.commutes(0, far));
            refused("part from " + far, NOTHING, x -> x.part(0, far, 8, 1));
            refused("part to " + far, NOTHING, x -> x.part(0, 0, far, 1));
        }
        refused("the newest one commutes", NONE, x -> x.commutes(0, 8));
        for (int far : new int[] {-1, 3, LEAST, MOST}) {
            refused("event, what " + far, NOTHING, x -> x.event(0, 0, far));
        }
        refused("until 0", 0, x -> x.until(0, 0));
        refused("until the least", 0, x -> x.until(0, LEAST));
    }

    private static void searches() {
        Due.promise(15);
        for (int far : new int[] {-1, 4, LEAST, MOST}) {
            refused("total, what " + far, NOTHING, x -> x.total(0, far));
            refused("part, what " + far, NOTHING, x -> x.part(0, 0, 1, far));
            refused("during, what " + far, NOTHING, x -> x.during(0, 0, 100000, far));
            refused("reach, what " + far, NONE, x -> x.reach(0, far, 0));
            refused("reachBack, what " + far, NONE, x -> x.reachBack(0, far, 0));
            refused("peak, what " + far, NOTHING, x -> x.peak(0, 1, far));
            refused("peakAt, what " + far, NONE, x -> x.peakAt(0, 1, far));
            refused("without, what " + far, NOTHING, x -> x.without(0, 0, far));
            refused("spare, what " + far, NONE, x -> x.spare(0, far));
            refused("turned, what " + far, NOTHING, x -> x.turned(0, far));
            refused("joined, what " + far, NOTHING, x -> x.joined(0, 0, far));
            refused("woven, what " + far, NOTHING, x -> x.woven(0, 0, far));
            refused("session, what " + far, NOTHING, x -> x.session(0, 5, 0, far));
            refused("law, what " + far, NOTHING, x -> x.law(0, 0, far));
            refused("watch, what " + far, NONE, x -> x.watch(0, 0, far, 0));
            refused("link, what " + far, FALSE, x -> told(x.link(0, 1, 5, far)));
            refused("shortest, what " + far, NONE, x -> x.shortest(0, far, 0, 0));
            refused("windows, what " + far, NONE, x -> x.windows(0, far, LEAST, MOST));
            refused("were, what " + far, NOTHING, x -> x.were(0, 50, 1, far));
            refused("parted, what " + far, NOTHING, x -> x.parted(0, 1, far, 0));
        }
        for (int far : new int[] {-1, 0, 10, LEAST, MOST}) {
            refused("peak of " + far, NOTHING, x -> x.peak(0, far, 1));
            refused("peakAt of " + far, NONE, x -> x.peakAt(0, far, 1));
        }
        for (int far : new int[] {-1, 3, LEAST, MOST}) {
            refused("law, how " + far, NOTHING, x -> x.law(0, far, 1));
            refused("parted, row " + far, NOTHING, x -> x.parted(0, 2, 1, far));
        }
        for (int far : new int[] {-1, 2, LEAST, MOST}) {
            refused("shortest, k " + far, NONE, x -> x.shortest(0, 1, 0, far));
        }
        for (int far : new int[] {-1, 0, 5, LEAST, MOST}) {
            refused("parted in " + far, NOTHING, x -> x.parted(0, far, 1, 0));
        }
        refused("parted in more than are held", NOTHING, x -> x.parted(1, 4, 0, 0));
    }

    private static void times() {
        Due.promise(30);
        for (int far : new int[] {-1, 0, 100001, LEAST, MOST}) {
            refused("panes of " + far, NONE, x -> x.panes(0, far));
            refused("fullest of " + far, NONE, x -> x.fullest(0, far));
        }
        for (int far : new int[] {-1, 100001, LEAST, MOST}) {
            refused("sessions by " + far, NONE, x -> x.sessions(0, far));
            refused("session by " + far, NOTHING, x -> x.session(0, far, 0, 1));
            refused("longest by " + far, NONE, x -> x.longest(0, far));
            refused("link by " + far, FALSE, x -> told(x.link(0, 1, far, 1)));
        }
        for (int far : new int[] {-1, 1, LEAST, MOST}) {
            refused("session " + far, NOTHING, x -> x.session(0, 100000, far, 1));
        }
    }

    private static void ties() {
        Due.promise(39);
        for (int far : new int[] {-1, 8, LEAST, MOST}) {
            refused("watch " + far, NONE, x -> x.watch(far, 0, 1, 0));
            refused("rings of " + far, NONE, x -> x.rings(far));
            refused("rang of " + far, NONE, x -> x.rang(far));
        }
        Due.promise(42);
        refused("linked to itself", FALSE, x -> told(x.link(0, 0, 5, 1)));
        refused("linked from the one to which one is linked", FALSE, x -> told(x.link(1, 0, 5, 0)));
        refused("unlinked, to which one is linked", FALSE, x -> told(x.unlink(1)));
        for (int far : new int[] {-1, 4, LEAST, MOST}) {
            refused("linked, what " + far, NONE, x -> x.linked(0, far));
        }
        Due.promise(50);
        for (int far : new int[] {-1, 3, LEAST, MOST}) {
            refused("keep in " + far, NONE, x -> x.keep(0, far));
            refused("back from " + far, NONE, x -> x.back(far));
        }
        refused("back from one in which nothing is kept", NONE, x -> x.back(1));
    }

    private static void noLaneThatComes() {
        Due.promise(8);
        noLane("come", NONE, (x, lane) -> x.come(lane, 50, 1));
        noLane("burst", NONE, (x, lane) -> x.burst(lane, 1, 1, 1));
        noLane("leave", NONE, (x, lane) -> x.leave(lane, 0));
        noLane("until", NONE, (x, lane) -> x.until(lane, 50));
        noLane("take", NOTHING, (x, lane) -> x.take(lane, 0));
        noLane("alter", FALSE, (x, lane) -> told(x.alter(lane, 0, 1)));
        noLane("watch", NONE, (x, lane) -> x.watch(0, lane, 0, 0));
        noLane("link from", FALSE, (x, lane) -> told(x.link(lane, 1, 5, 0)));
        noLane("link to", FALSE, (x, lane) -> told(x.link(0, lane, 5, 0)));
        noLane("unlink", FALSE, (x, lane) -> told(x.unlink(lane)));
        noLane("keep", NONE, (x, lane) -> x.keep(lane, 0));
    }

    private static void noLaneThatIsAsked() {
        Due.promise(15);
        noLane("event", NOTHING, (x, lane) -> x.event(lane, 0, 0));
        noLane("total", NOTHING, (x, lane) -> x.total(lane, 0));
        noLane("part", NOTHING, (x, lane) -> x.part(lane, 0, 0, 0));
        noLane("during", NOTHING, (x, lane) -> x.during(lane, 0, 50, 0));
        noLane("many", NONE, (x, lane) -> x.many(lane, 0, 50));
        noLane("reach", NONE, (x, lane) -> x.reach(lane, 0, LEAST));
        noLane("reachBack", NONE, (x, lane) -> x.reachBack(lane, 0, LEAST));
        noLane("peak", NOTHING, (x, lane) -> x.peak(lane, 1, 0));
        noLane("peakAt", NONE, (x, lane) -> x.peakAt(lane, 1, 0));
        noLane("without", NOTHING, (x, lane) -> x.without(lane, 0, 0));
        noLane("spare", NONE, (x, lane) -> x.spare(lane, 0));
        noLane("turned", NOTHING, (x, lane) -> x.turned(lane, 0));
        noLane("commutes", NONE, (x, lane) -> x.commutes(lane, 0));
        noLane("panes", NONE, (x, lane) -> x.panes(lane, 1));
        noLane("fullest", NONE, (x, lane) -> x.fullest(lane, 1));
        noLane("sessions", NONE, (x, lane) -> x.sessions(lane, 1));
        noLane("session", NOTHING, (x, lane) -> x.session(lane, 1, 0, 0));
        noLane("longest", NONE, (x, lane) -> x.longest(lane, 1));
        for (int how = 0; how < 3; how++) {
            int by = how;
            noLane("law", NOTHING, (x, lane) -> x.law(lane, by, 0));
        }
        noLane("state", NONE, (x, lane) -> x.state(lane, 0));
        noLane("soon", NONE, (x, lane) -> x.soon(lane, 0));
        noLane("soon", NONE, (x, lane) -> x.soon(lane, 1));
        noLane("lane", NONE, (x, lane) -> x.lane(lane, 0));
        noLane("linked", NONE, (x, lane) -> x.linked(lane, 0));
        noLane("shortest", NONE, (x, lane) -> x.shortest(lane, 0, LEAST, 0));
        noLane("windows", NONE, (x, lane) -> x.windows(lane, 0, LEAST, MOST));
        noLane("were", NOTHING, (x, lane) -> x.were(lane, 50, 1, 0));
        noLane("cost", NONE, (x, lane) -> x.cost(lane, 0, 0));
        noLane("parted", NOTHING, (x, lane) -> x.parted(lane, 1, 0, 0));
    }

    private static void noLaneOfTwo() {
        Due.promise(27);
        noLane("joined", NOTHING, (x, lane) -> x.joined(lane, 0, 0));
        noLane("joined to", NOTHING, (x, lane) -> x.joined(0, lane, 0));
        noLane("joined, neither", NOTHING, (x, lane) -> x.joined(lane, lane, 0));
        noLane("woven", NOTHING, (x, lane) -> x.woven(lane, 0, 0));
        noLane("woven with", NOTHING, (x, lane) -> x.woven(0, lane, 0));
        noLane("woven, neither", NOTHING, (x, lane) -> x.woven(lane, lane, 0));
        noLane("same", NONE, (x, lane) -> x.same(lane, 0));
        noLane("same as", NONE, (x, lane) -> x.same(0, lane));
        noLane("same, neither", NONE, (x, lane) -> x.same(lane, lane));
        refused("joined, two operations", NOTHING, x -> x.joined(0, 1, 0));
        refused("woven, two operations", NOTHING, x -> x.woven(1, 0, 0));
        refused("same, two operations", NONE, x -> x.same(0, 1));
    }

    /** One object is asked all that can be asked, and stands as before. */
    private static void asked() {
        Due.promise(52);
        SlideFold x = busy();
        for (int lane = 0; lane < 2; lane++) {
            x.total(lane, 0);
            x.part(lane, 0, 2, 0);
            x.during(lane, 1, 9, 0);
            x.many(lane, 1, 9);
            x.reach(lane, 0, 3);
            x.reachBack(lane, 0, 3);
            x.peak(lane, 2, 0);
            x.peakAt(lane, 2, 0);
            x.without(lane, 1, 0);
            x.spare(lane, 0);
            x.turned(lane, 0);
            x.commutes(lane, 1);
            x.joined(lane, lane, 0);
            x.woven(lane, lane, 0);
            x.same(lane, lane);
            x.panes(lane, 3);
            x.fullest(lane, 3);
            x.sessions(lane, 1);
            x.session(lane, 1, 1, 0);
            x.longest(lane, 1);
            x.law(lane, 2, 0);
            x.soon(lane, 0);
            x.soon(lane, 1);
            x.shortest(lane, 0, 3, 1);
            x.windows(lane, 0, 1, 3);
            x.were(lane, 50, 5, 0);
            x.were(lane, 8, 5, 0);
            x.cost(lane, 200, 1);
            x.parted(lane, 3, 0, 2);
        }
        String now = all(x);
        Due.is("what asks does nothing: " + busy + " / " + now, now.equals(busy), true);
        x.keep(0, 1);
        x.keep(1, 2);
        Due.is("keeping does nothing to the lanes", all(x).equals(busy.replaceFirst("^(\\S+ \\S+ \\S+ \\S+) 2", "$1 3")),
            true);
    }
}
