import java.util.Arrays;

/**
 * Windows that slide over events and tell what all of them come to by an operation of which nothing is used but that
 * it associates. ../shared/DOC.md says in numbered promises what each method does.
 *
 * Every row that a call needs is made in the constructors: no call makes an object.
 */
public final class SlideFold {
    public static final int NONE = -1;
    public static final int NOTHING = Integer.MIN_VALUE;

    private static final int LANES = 4;
    private static final int BOXES = 3;
    private static final int WATCHES = 8;
    private static final int ELEMENTS = 4;
    private static final int CELLS = 16;
    private static final int TRIPLES = 64;
    private static final int STATES = 4;
    private static final int LETTERS = 8;
    private static final int MOST_SENDS = 255;
    /** 3210 by four: each STATE is sent to itself. */
    private static final int TO_ITSELF = 228;

    private static final int MOST_HELD = 120;
    private static final int MOST_VALUE = 1000;
    private static final int MOST_TIME = 100000;
    private static final int MOST_SPAN = 10000;
    private static final int MOST_BURST = 40;
    private static final int MOST_COST = 200;
    private static final int MOST_ROWS = 4;

    private static final int HAND = 0;
    private static final int BY_COUNT = 1;
    private static final int BY_TIME = 2;

    private static final int GREATEST = 0;
    private static final int SHARE = 1;
    private static final int LINE = 2;
    private static final int RUN = 3;
    private static final int BY_LETTERS = 4;
    private static final int NEST = 5;
    private static final int LIKE = 6;
    private static final int STEPS = 7;
    private static final int SPREAD = 8;
    private static final int BY_TABLE = 9;

    /** How many numbers each operation comes to. */
    private static final int[] NUMBERS = {4, 2, 2, 4, 5, 4, 7, 5, 3, 1};
    private static final int MOST_NUMBERS = 7;

    /** What come answers for an event that is lost. */
    private static final int LOST = -2;

    private static final int LINE_MODULUS = 997;
    private static final int STEPS_A_MOVE = 3;

    private final Lane[] lanes;
    private final Lane[] boxes;
    private final Watch[] watches;
    private final Link[] links;
    private final Fold fold;
    private final Flip trial;
    /** parted: the most that the events from one on come to in so many rows, and where the second of these begins. */
    private final int[][] partedSum;
    private final int[][] partedNext;

    public SlideFold() {
        lanes = new Lane[LANES];
        links = new Link[LANES];
        for (int i = 0; i < LANES; i++) {
            lanes[i] = new Lane(i);
            links[i] = new Link();
        }
        boxes = new Lane[BOXES];
        for (int i = 0; i < BOXES; i++) {
            boxes[i] = new Lane(NONE);
        }
        watches = new Watch[WATCHES];
        for (int i = 0; i < WATCHES; i++) {
            watches[i] = new Watch();
        }
        fold = new Fold();
        trial = new Flip();
        partedSum = new int[MOST_ROWS + 1][MOST_HELD + 1];
        partedNext = new int[MOST_ROWS + 1][MOST_HELD + 1];
    }

    // ---- the TABLE and the LETTERS

    public boolean table(int cell, int element) {
        if (!within(cell, 0, CELLS - 1) || !within(element, 0, ELEMENTS - 1) || isUsed(BY_TABLE)) {
            return false;
        }
        fold.cells[cell] = element;
        return true;
    }

    public boolean letter(int letter, int sends) {
        if (!within(letter, 0, LETTERS - 1) || !within(sends, 0, MOST_SENDS) || isUsed(BY_LETTERS)) {
            return false;
        }
        fold.sends[letter] = sends;
        return true;
    }

    public int triple(int what) {
        if (!within(what, 0, 3)) {
            return NONE;
        }
        int first = NONE;
        int alike = 0;
        for (int t = 0; t < TRIPLES; t++) {
            if (associates(t / 16, t / 4 % 4, t % 4)) {
                alike++;
            } else if (first == NONE) {
                first = t;
            }
        }
        if (what == 3) {
            return alike;
        }
        if (first == NONE) {
            return NONE;
        }
        return what == 0 ? first / 16 : what == 1 ? first / 4 % 4 : first % 4;
    }

    public int element(int what) {
        switch (what) {
            case 0:
                return firstNeutral();
            case 1:
                return firstAbsorbing();
            case 2:
                return idempotents();
            case 3:
                return commutingPairs();
            default:
                return NONE;
        }
    }

    private int product(int x, int y) {
        return fold.cells[ELEMENTS * x + y];
    }

    private boolean associates(int x, int y, int z) {
        return product(product(x, y), z) == product(x, product(y, z));
    }

    private int firstNeutral() {
        for (int e = 0; e < ELEMENTS; e++) {
            int kept = 0;
            for (int x = 0; x < ELEMENTS; x++) {
                kept += product(e, x) == x && product(x, e) == x ? 1 : 0;
            }
            if (kept == ELEMENTS) {
                return e;
            }
        }
        return NONE;
    }

    private int firstAbsorbing() {
        for (int e = 0; e < ELEMENTS; e++) {
            int taken = 0;
            for (int x = 0; x < ELEMENTS; x++) {
                taken += product(e, x) == e && product(x, e) == e ? 1 : 0;
            }
            if (taken == ELEMENTS) {
                return e;
            }
        }
        return NONE;
    }

    private int idempotents() {
        int count = 0;
        for (int x = 0; x < ELEMENTS; x++) {
            count += product(x, x) == x ? 1 : 0;
        }
        return count;
    }

    private int commutingPairs() {
        int count = 0;
        for (int x = 0; x < ELEMENTS; x++) {
            for (int y = 0; y < ELEMENTS; y++) {
                count += product(x, y) == product(y, x) ? 1 : 0;
            }
        }
        return count;
    }

    /** Folds that stand, in boxes too, were made by the TABLE or the LETTERS as they are: these may not change then. */
    private boolean isUsed(int operation) {
        for (int i = 0; i < LANES; i++) {
            if (lanes[i].isOpen && lanes[i].operation == operation) {
                return true;
            }
        }
        for (int i = 0; i < BOXES; i++) {
            if (boxes[i].isOpen && boxes[i].operation == operation) {
                return true;
            }
        }
        return false;
    }

    // ---- LANES and what COMES and goes

    public int open(int lane, int operation, int by, int size, int slack) {
        if (!isLane(lane) || !within(operation, GREATEST, BY_TABLE) || !within(slack, 0, MOST_SPAN)
                || !isSize(by, size)) {
            return NONE;
        }
        if (operation == BY_TABLE && triple(3) != TRIPLES) {
            return NONE;
        }
        lanes[lane].begin(operation, by, by == HAND ? 0 : size, slack);
        endTies(lane);
        return openLanes();
    }

    private static boolean isSize(int by, int size) {
        switch (by) {
            case HAND:
                return true;
            case BY_COUNT:
                return within(size, 1, MOST_HELD);
            case BY_TIME:
                return within(size, 1, MOST_SPAN);
            default:
                return false;
        }
    }

    public boolean shut(int lane) {
        Lane of = openLane(lane);
        if (of == null) {
            return false;
        }
        of.isOpen = false;
        endTies(lane);
        return true;
    }

    public int come(int lane, int time, int value) {
        Lane of = openLane(lane);
        if (of == null || !isTime(time) || !isValue(value)) {
            return NONE;
        }
        if (of.isTooLate(time)) {
            of.lost++;
            return LOST;
        }
        if (of.isFull()) {
            return NONE;
        }
        give(of, time);
        place(of, time, value);
        noteMost();
        return of.held;
    }

    public int burst(int lane, int many, int value, int step) {
        Lane of = openLane(lane);
        if (of == null || !within(many, 1, MOST_BURST) || !within(step, -MOST_VALUE, MOST_VALUE)) {
            return NONE;
        }
        if (!isValue(value) || !isValue(value + (many - 1) * step) || !isTime(of.newest + many)) {
            return NONE;
        }
        if (of.by != BY_COUNT && of.held + many > MOST_HELD) {
            return NONE;
        }
        for (int i = 0; i < many; i++) {
            int time = of.newest + 1;
            give(of, time);
            place(of, time, value + i * step);
        }
        noteMost();
        return of.held;
    }

    public int leave(int lane, int many) {
        Lane of = openLane(lane);
        if (of == null || !within(many, 0, of.held)) {
            return NONE;
        }
        for (int i = 0; i < many; i++) {
            dropOldest(of);
        }
        return of.held;
    }

    public int until(int lane, int time) {
        Lane of = openLane(lane);
        if (of == null) {
            return NONE;
        }
        int many = of.heldUntil(time);
        for (int i = 0; i < many; i++) {
            dropOldest(of);
        }
        return many;
    }

    public int take(int lane, int event) {
        Lane of = laneHolding(lane, event);
        if (of == null) {
            return NOTHING;
        }
        int value = of.values[event];
        of.remove(event);
        layAnew(of);
        return value;
    }

    public boolean alter(int lane, int event, int value) {
        Lane of = laneHolding(lane, event);
        if (of == null || !isValue(value)) {
            return false;
        }
        of.values[event] = value;
        layAnew(of);
        return true;
    }

    /** The caller has seen that the event is neither lost nor refused. */
    private void place(Lane of, int time, int value) {
        int at = of.heldUntil(time);
        boolean added = at == of.held;
        of.insert(at, time, value);
        if (added) {
            of.flip.add();
            ringWatches(of);
        } else {
            layAnew(of);
        }
        for (int left = of.held; left > 0 && of.goes(of.held, of.times[0], of.newest); left--) {
            dropOldest(of);
        }
    }

    private void dropOldest(Lane of) {
        of.remove(0);
        of.dropped++;
        of.flip.drop();
        ringWatches(of);
    }

    private void layAnew(Lane of) {
        of.flip.layAnew(of.held);
        ringWatches(of);
    }

    /** Ahead of an event at this time, the session that it ends is given to the lane to which its own one is linked. */
    private void give(Lane of, int time) {
        Link link = links[of.number];
        Lane other = openLane(link.to);
        int newest = of.held - 1;
        if (other == null || newest < 0 || time - of.times[newest] <= link.gap || other.isFull()) {
            return;
        }
        int from = newest;
        while (from > 0 && !of.startsSession(from, link.gap)) {
            from--;
        }
        int number = comesTo(of, from, of.held, link.what);
        if (number == NOTHING) {
            return;
        }
        int at = of.times[newest];
        if (other.isTooLate(at)) {
            other.lost++;
            return;
        }
        link.came++;
        place(other, at, Math.max(-MOST_VALUE, Math.min(MOST_VALUE, number)));
    }

    /** Only what is held behind a whole call counts, so this stands at the end of the calls that add. */
    private void noteMost() {
        for (int i = 0; i < LANES; i++) {
            lanes[i].most = Math.max(lanes[i].most, lanes[i].held);
        }
    }

    // ---- what is held, and what it COMES TO

    public int event(int lane, int event, int what) {
        Lane of = laneHolding(lane, event);
        if (of == null) {
            return NOTHING;
        }
        switch (what) {
            case 0:
                return of.times[event];
            case 1:
                return of.values[event];
            case 2:
                return of.orders[event];
            default:
                return NOTHING;
        }
    }

    public int total(int lane, int what) {
        Lane of = laneWith(lane, what);
        return of == null ? NOTHING : comesTo(of, 0, of.held, what);
    }

    public int part(int lane, int from, int to, int what) {
        Lane of = laneWith(lane, what);
        if (of == null || from < 0 || to < from || to >= of.held) {
            return NOTHING;
        }
        return comesTo(of, from, to + 1, what);
    }

    public int during(int lane, int from, int to, int what) {
        Lane of = laneWith(lane, what);
        return of == null ? NOTHING : comesTo(of, of.heldUntil(from - 1L), of.heldUntil(to), what);
    }

    public int many(int lane, int from, int to) {
        Lane of = openLane(lane);
        return of == null ? NONE : Math.max(0, of.heldUntil(to) - of.heldUntil(from - 1L));
    }

    public int reach(int lane, int what, int bound) {
        Lane of = laneWith(lane, what);
        if (of == null) {
            return NONE;
        }
        fold.begin(of.operation);
        for (int i = 0; i < of.held; i++) {
            fold.append(of.values[i]);
            if (fold.reaches(what, bound)) {
                return i + 1;
            }
        }
        return NONE;
    }

    public int reachBack(int lane, int what, int bound) {
        Lane of = laneWith(lane, what);
        if (of == null) {
            return NONE;
        }
        for (int many = 1; many <= of.held; many++) {
            foldPart(of, of.held - many, of.held);
            if (fold.reaches(what, bound)) {
                return many;
            }
        }
        return NONE;
    }

    public int peak(int lane, int many, int what) {
        int at = peakAt(lane, many, what);
        return at == NONE ? NOTHING : comesTo(lanes[lane], at, at + many, what);
    }

    public int peakAt(int lane, int many, int what) {
        Lane of = laneWith(lane, what);
        if (of == null || !within(many, 1, of.held)) {
            return NONE;
        }
        int best = 0;
        int most = NOTHING;
        for (int at = 0; at + many <= of.held; at++) {
            int number = comesTo(of, at, at + many, what);
            if (number > most) {
                most = number;
                best = at;
            }
        }
        return best;
    }

    public int without(int lane, int event, int what) {
        Lane of = laneHolding(lane, event);
        return of == null || !of.hasNumber(what) ? NOTHING : comesToWithout(of, event, what);
    }

    public int spare(int lane, int what) {
        Lane of = laneWith(lane, what);
        if (of == null || of.held < 2) {
            return NONE;
        }
        int best = 0;
        int most = NOTHING;
        for (int event = 0; event < of.held; event++) {
            int number = comesToWithout(of, event, what);
            if (number > most) {
                most = number;
                best = event;
            }
        }
        return best;
    }

    public int turned(int lane, int what) {
        Lane of = laneWith(lane, what);
        if (of == null) {
            return NOTHING;
        }
        fold.begin(of.operation);
        for (int i = of.held - 1; i >= 0; i--) {
            fold.append(of.values[i]);
        }
        return fold.number(what);
    }

    public int commutes(int lane, int event) {
        Lane of = laneHolding(lane, event);
        if (of == null || event == of.held - 1) {
            return NONE;
        }
        foldPart(of, 0, of.held);
        fold.noteNumbers();
        fold.begin(of.operation);
        for (int i = 0; i < of.held; i++) {
            int from = i == event ? event + 1 : i == event + 1 ? event : i;
            fold.append(of.values[from]);
        }
        return fold.isAsNoted() ? 1 : 0;
    }

    /** As the operation associates, each way of combining comes to the same. */
    public int law(int lane, int how, int what) {
        return within(how, 0, 2) ? total(lane, what) : NOTHING;
    }

    // ---- two LANES

    public int joined(int lane, int other, int what) {
        Lane first = laneWith(lane, what);
        Lane second = openLane(other);
        if (first == null || second == null || first.operation != second.operation) {
            return NOTHING;
        }
        foldPart(first, 0, first.held);
        for (int i = 0; i < second.held; i++) {
            fold.append(second.values[i]);
        }
        return fold.number(what);
    }

    public int woven(int lane, int other, int what) {
        Lane first = laneWith(lane, what);
        Lane second = openLane(other);
        if (first == null || second == null || first.operation != second.operation) {
            return NOTHING;
        }
        fold.begin(first.operation);
        int i = 0;
        int k = 0;
        for (int left = first.held + second.held; left > 0; left--) {
            boolean isFirst = k >= second.held || i < first.held && first.times[i] <= second.times[k];
            fold.append(isFirst ? first.values[i] : second.values[k]);
            i += isFirst ? 1 : 0;
            k += isFirst ? 0 : 1;
        }
        return fold.number(what);
    }

    public int same(int lane, int other) {
        Lane first = openLane(lane);
        Lane second = openLane(other);
        if (first == null || second == null || first.operation != second.operation) {
            return NONE;
        }
        foldPart(first, 0, first.held);
        fold.noteNumbers();
        foldPart(second, 0, second.held);
        return fold.isAsNoted() ? 1 : 0;
    }

    // ---- PANES and SESSIONS

    public int panes(int lane, int width) {
        Lane of = openLane(lane);
        if (of == null || !within(width, 1, MOST_TIME)) {
            return NONE;
        }
        int count = 0;
        int latest = NONE;
        for (int i = 0; i < of.held; i++) {
            int pane = of.times[i] / width;
            count += pane != latest ? 1 : 0;
            latest = pane;
        }
        return count;
    }

    public int fullest(int lane, int width) {
        Lane of = openLane(lane);
        if (of == null || !within(width, 1, MOST_TIME)) {
            return NONE;
        }
        int best = NONE;
        int most = 0;
        int latest = NONE;
        int count = 0;
        for (int i = 0; i < of.held; i++) {
            int pane = of.times[i] / width;
            count = pane == latest ? count + 1 : 1;
            latest = pane;
            if (count > most) {
                most = count;
                best = pane;
            }
        }
        return best;
    }

    public int sessions(int lane, int gap) {
        Lane of = openLane(lane);
        if (of == null || !isGap(gap)) {
            return NONE;
        }
        int count = 0;
        for (int i = 0; i < of.held; i++) {
            count += of.startsSession(i, gap) ? 1 : 0;
        }
        return count;
    }

    public int session(int lane, int gap, int session, int what) {
        Lane of = laneWith(lane, what);
        if (of == null || !isGap(gap) || session < 0) {
            return NOTHING;
        }
        fold.begin(of.operation);
        int current = NONE;
        for (int i = 0; i < of.held; i++) {
            current += of.startsSession(i, gap) ? 1 : 0;
            if (current == session) {
                fold.append(of.values[i]);
            }
        }
        return fold.number(what);
    }

    public int longest(int lane, int gap) {
        Lane of = openLane(lane);
        if (of == null || !isGap(gap)) {
            return NONE;
        }
        int best = NONE;
        int most = 0;
        int current = NONE;
        int count = 0;
        for (int i = 0; i < of.held; i++) {
            boolean starts = of.startsSession(i, gap);
            current += starts ? 1 : 0;
            count = starts ? 1 : count + 1;
            if (count > most) {
                most = count;
                best = current;
            }
        }
        return best;
    }

    // ---- how a LANE stands

    public int state(int lane, int what) {
        Lane of = openLane(lane);
        return of == null ? NONE : of.flip.told(what);
    }

    public int soon(int lane, int what) {
        Lane of = openLane(lane);
        if (of == null || !within(what, 0, 1)) {
            return NONE;
        }
        Flip flip = of.flip;
        if (what == 0) {
            return flip.left > 0 ? NONE : flip.front + 1 - flip.back;
        }
        return flip.left > 0 ? (flip.left + STEPS_A_MOVE - 1) / STEPS_A_MOVE : NONE;
    }

    public int cost(int lane, int many, int what) {
        Lane of = openLane(lane);
        if (of == null || !within(many, 0, MOST_COST) || !within(what, 0, 1)) {
            return NONE;
        }
        trial.copyFrom(of.flip);
        trial.spent = 0;
        trial.most = 0;
        for (int i = 0; i < many; i++) {
            trial.add();
        }
        return what == 0 ? trial.spent : trial.most;
    }

    public int lane(int lane, int what) {
        Lane of = openLane(lane);
        return of == null ? NONE : of.told(what);
    }

    // ---- WATCHES

    public int watch(int watch, int lane, int what, int bound) {
        Lane of = laneWith(lane, what);
        if (of == null || !within(watch, 0, WATCHES - 1)) {
            return NONE;
        }
        foldPart(of, 0, of.held);
        boolean reached = fold.reaches(what, bound);
        watches[watch].begin(lane, what, bound, reached);
        return reached ? 1 : 0;
    }

    public int rings(int watch) {
        return isTold(watch) ? watches[watch].rings : NONE;
    }

    public int rang(int watch) {
        return isTold(watch) ? watches[watch].rang : NONE;
    }

    private boolean isTold(int watch) {
        return within(watch, 0, WATCHES - 1) && watches[watch].lane != NONE;
    }

    /** Not by foldPart: from come to the fold's own calls it is eight deep as it is. */
    private void ringWatches(Lane of) {
        if (!isWatched(of.number)) {
            return;
        }
        fold.begin(of.operation);
        for (int i = 0; i < of.held; i++) {
            fold.append(of.values[i]);
        }
        for (int i = 0; i < WATCHES; i++) {
            Watch watch = watches[i];
            if (watch.lane == of.number) {
                watch.note(fold.reaches(watch.what, watch.bound), of.newest);
            }
        }
    }

    private boolean isWatched(int lane) {
        for (int i = 0; i < WATCHES; i++) {
            if (watches[i].lane == lane) {
                return true;
            }
        }
        return false;
    }

    // ---- LINKS

    public boolean link(int lane, int other, int gap, int what) {
        Lane of = laneWith(lane, what);
        if (of == null || openLane(other) == null || lane == other || !isGap(gap)) {
            return false;
        }
        if (links[other].to != NONE || isLinkedTo(lane)) {
            return false;
        }
        links[lane].begin(other, gap, what);
        return true;
    }

    public boolean unlink(int lane) {
        if (!isLane(lane) || links[lane].to == NONE) {
            return false;
        }
        links[lane].end();
        return true;
    }

    public int linked(int lane, int what) {
        return isLane(lane) && links[lane].to != NONE ? links[lane].told(what) : NONE;
    }

    private boolean isLinkedTo(int lane) {
        for (int i = 0; i < LANES; i++) {
            if (links[i].to == lane) {
                return true;
            }
        }
        return false;
    }

    /** What was tied to the lane as it was has no meaning for the lane that it becomes. */
    private void endTies(int lane) {
        for (int i = 0; i < WATCHES; i++) {
            if (watches[i].lane == lane) {
                watches[i].end();
            }
        }
        for (int i = 0; i < LANES; i++) {
            if (i == lane || links[i].to == lane) {
                links[i].end();
            }
        }
    }

    // ---- rows of neighbours, and what would be

    public int shortest(int lane, int what, int bound, int k) {
        Lane of = laneWith(lane, what);
        if (of == null || !within(k, 0, 1)) {
            return NONE;
        }
        int fewest = of.held + 1;
        int first = NONE;
        for (int from = 0; from < of.held; from++) {
            fold.begin(of.operation);
            for (int to = from; to < of.held && to - from + 1 < fewest; to++) {
                fold.append(of.values[to]);
                if (fold.reaches(what, bound)) {
                    fewest = to - from + 1;
                    first = from;
                }
            }
        }
        return first == NONE ? NONE : k == 0 ? fewest : first;
    }

    public int windows(int lane, int what, int low, int high) {
        Lane of = laneWith(lane, what);
        if (of == null) {
            return NONE;
        }
        int count = 0;
        for (int from = 0; from < of.held; from++) {
            fold.begin(of.operation);
            for (int to = from; to < of.held; to++) {
                fold.append(of.values[to]);
                int number = fold.number(what);
                count += number != NOTHING && within(number, low, high) ? 1 : 0;
            }
        }
        return count;
    }

    public int were(int lane, int time, int value, int what) {
        Lane of = laneWith(lane, what);
        if (of == null || !isTime(time) || !isValue(value) || of.isTooLate(time) || of.isFull()) {
            return NOTHING;
        }
        int at = of.heldUntil(time);
        int newest = Math.max(of.newest, time);
        fold.begin(of.operation);
        for (int i = 0; i <= of.held; i++) {
            int old = i < at ? i : i - 1;
            int itsTime = i == at ? time : of.times[old];
            if (!of.goes(of.held + 1 - i, itsTime, newest)) {
                fold.append(i == at ? value : of.values[old]);
            }
        }
        return fold.number(what);
    }

    public int parted(int lane, int rows, int what, int i) {
        Lane of = laneWith(lane, what);
        if (of == null || !within(rows, 1, MOST_ROWS) || !within(i, 0, rows) || of.held < rows) {
            return NOTHING;
        }
        for (int from = of.held - 1; from >= 0; from--) {
            partFrom(of, from, rows, what);
        }
        int sum = partedSum[rows][0];
        if (sum == NOTHING || i == 0) {
            return sum;
        }
        int start = 0;
        for (int row = 1; row < i; row++) {
            start = partedNext[rows - row + 1][start];
        }
        return start;
    }

    /** The ways for later events stand already; of like ways the first found begins its second row first. */
    private void partFrom(Lane of, int from, int rows, int what) {
        for (int r = 1; r <= rows; r++) {
            partedSum[r][from] = NOTHING;
        }
        fold.begin(of.operation);
        for (int next = from + 1; next < of.held; next++) {
            fold.append(of.values[next - 1]);
            int number = fold.number(what);
            for (int r = 2; r <= rows && number != NOTHING; r++) {
                int rest = partedSum[r - 1][next];
                if (rest != NOTHING && number + rest > partedSum[r][from]) {
                    partedSum[r][from] = number + rest;
                    partedNext[r][from] = next;
                }
            }
        }
        fold.append(of.values[of.held - 1]);
        partedSum[1][from] = fold.number(what);
    }

    // ---- BOXES, and all together

    public int keep(int lane, int box) {
        Lane of = openLane(lane);
        if (of == null || !within(box, 0, BOXES - 1)) {
            return NONE;
        }
        boxes[box].copyFrom(of);
        return of.held;
    }

    public int back(int box) {
        if (!within(box, 0, BOXES - 1) || !boxes[box].isOpen) {
            return NONE;
        }
        Lane kept = boxes[box];
        lanes[kept.number].copyFrom(kept);
        endTies(kept.number);
        return kept.held;
    }

    public int about(int what) {
        switch (what) {
            case 0:
                return openLanes();
            case 1:
                return heldInAll();
            case 2:
                return spentInAll();
            case 3:
                return toldWatches();
            case 4:
                return fullBoxes();
            case 5:
                return ringsInAll();
            case 6:
                return linksInAll();
            default:
                return NONE;
        }
    }

    private int openLanes() {
        int count = 0;
        for (int i = 0; i < LANES; i++) {
            count += lanes[i].isOpen ? 1 : 0;
        }
        return count;
    }

    private int heldInAll() {
        int count = 0;
        for (int i = 0; i < LANES; i++) {
            count += lanes[i].isOpen ? lanes[i].held : 0;
        }
        return count;
    }

    private int spentInAll() {
        int count = 0;
        for (int i = 0; i < LANES; i++) {
            count += lanes[i].isOpen ? lanes[i].flip.spent : 0;
        }
        return count;
    }

    private int toldWatches() {
        int count = 0;
        for (int i = 0; i < WATCHES; i++) {
            count += isTold(i) ? 1 : 0;
        }
        return count;
    }

    private int fullBoxes() {
        int count = 0;
        for (int i = 0; i < BOXES; i++) {
            count += boxes[i].isOpen ? 1 : 0;
        }
        return count;
    }

    private int ringsInAll() {
        int count = 0;
        for (int i = 0; i < WATCHES; i++) {
            count += isTold(i) ? watches[i].rings : 0;
        }
        return count;
    }

    private int linksInAll() {
        int count = 0;
        for (int i = 0; i < LANES; i++) {
            count += links[i].to != NONE ? 1 : 0;
        }
        return count;
    }

    // ---- what the calls ask of their arguments

    private static boolean within(int number, int low, int high) {
        return low <= number && number <= high;
    }

    private static boolean isLane(int lane) {
        return within(lane, 0, LANES - 1);
    }

    private static boolean isTime(int time) {
        return within(time, 0, MOST_TIME);
    }

    private static boolean isValue(int value) {
        return within(value, -MOST_VALUE, MOST_VALUE);
    }

    private static boolean isGap(int gap) {
        return within(gap, 0, MOST_TIME);
    }

    /** The lane, or null if it is not open. */
    private Lane openLane(int lane) {
        return isLane(lane) && lanes[lane].isOpen ? lanes[lane] : null;
    }

    /** The lane, or null if it is not open or its operation has no such number. */
    private Lane laneWith(int lane, int what) {
        Lane of = openLane(lane);
        return of != null && of.hasNumber(what) ? of : null;
    }

    /** The lane, or null if it is not open or holds no such event. */
    private Lane laneHolding(int lane, int event) {
        Lane of = openLane(lane);
        return of != null && within(event, 0, of.held - 1) ? of : null;
    }

    // ---- folds over parts

    /** What the events from one up to another one, that one not, come to. */
    private int comesTo(Lane of, int from, int end, int what) {
        foldPart(of, from, end);
        return fold.number(what);
    }

    private int comesToWithout(Lane of, int event, int what) {
        foldPart(of, 0, event);
        for (int i = event + 1; i < of.held; i++) {
            fold.append(of.values[i]);
        }
        return fold.number(what);
    }

    private void foldPart(Lane of, int from, int end) {
        fold.begin(of.operation);
        for (int i = from; i < end; i++) {
            fold.append(of.values[i]);
        }
    }

    /**
     * What the values appended so far come to by an operation. The TABLE and the LETTERS stand here, as nothing else
     * goes by them.
     */
    private static final class Fold {
        private final int[] cells;
        private final int[] sends;
        private final int[] numbers;
        private final int[] noted;
        private int notedCount;
        private int operation;
        private int count;
        /** STEPS: how many of the last ones have none that is less than the one ahead. */
        private int rising;

        Fold() {
            cells = new int[CELLS];
            sends = new int[LETTERS];
            Arrays.fill(sends, TO_ITSELF);
            numbers = new int[MOST_NUMBERS];
            noted = new int[MOST_NUMBERS];
        }

        /** Sets what no value comes to, in so far as append builds on it. */
        void begin(int operation) {
            this.operation = operation;
            count = 0;
            rising = 0;
            Arrays.fill(numbers, 0);
            if (operation == LINE) {
                numbers[0] = 1;
            } else if (operation == BY_LETTERS) {
                for (int s = 0; s < STATES; s++) {
                    numbers[s] = s;
                }
            } else if (operation == SPREAD) {
                numbers[0] = NOTHING;
                numbers[1] = NOTHING;
            }
        }

        /** A number of the values; NOTHING, if there are none. */
        int number(int what) {
            return count == 0 || what < 0 || what >= NUMBERS[operation] ? NOTHING : numbers[what];
        }

        boolean reaches(int what, int bound) {
            int number = number(what);
            return number != NOTHING && number >= bound;
        }

        /** Keeps the numbers, for others by the same operation to be held against them. */
        void noteNumbers() {
            System.arraycopy(numbers, 0, noted, 0, MOST_NUMBERS);
            notedCount = count;
        }

        boolean isAsNoted() {
            if (count == 0 || notedCount == 0) {
                return count == notedCount;
            }
            for (int i = 0; i < NUMBERS[operation]; i++) {
                if (numbers[i] != noted[i]) {
                    return false;
                }
            }
            return true;
        }

        void append(int value) {
            switch (operation) {
                case GREATEST:
                    addGreatest(value);
                    break;
                case SHARE:
                    addShare(value);
                    break;
                case LINE:
                    addLine(value);
                    break;
                case RUN:
                    addRun(value);
                    break;
                case BY_LETTERS:
                    addLetter(value);
                    break;
                case NEST:
                    addNest(value);
                    break;
                case LIKE:
                    addLike(value);
                    break;
                case STEPS:
                    addStep(value);
                    break;
                case SPREAD:
                    addSpread(value);
                    break;
                default:
                    addElement(value);
                    break;
            }
            count++;
        }

        private void addGreatest(int value) {
            if (count == 0 || value > numbers[0]) {
                numbers[0] = value;
                numbers[1] = 1;
                numbers[2] = count;
            } else if (value == numbers[0]) {
                numbers[1]++;
            }
            numbers[3] = count + 1;
        }

        private void addShare(int value) {
            int share = numbers[0];
            int rest = Math.abs(value);
            // each turn makes the rest less, so the bound is never met
            for (int turn = 0; rest != 0 && turn <= MOST_VALUE; turn++) {
                int next = share % rest;
                share = rest;
                rest = next;
            }
            numbers[0] = share;
            numbers[1] += value != 0 ? 1 : 0;
        }

        private void addLine(int value) {
            int a = Math.floorMod(value, LINE_MODULUS);
            int b = Math.floorMod(7 * value + 1, LINE_MODULUS);
            numbers[0] = a * numbers[0] % LINE_MODULUS;
            numbers[1] = (a * numbers[1] + b) % LINE_MODULUS;
        }

        private void addRun(int value) {
            boolean isFirst = count == 0;
            numbers[1] += value;
            numbers[2] = isFirst ? value : Math.max(numbers[2], numbers[1]);
            numbers[3] = isFirst ? value : Math.max(numbers[3] + value, value);
            numbers[0] = isFirst ? value : Math.max(numbers[0], numbers[3]);
        }

        private void addLetter(int value) {
            int sentTo = sends[Math.floorMod(value, LETTERS)];
            int reached = 0;
            for (int s = 0; s < STATES; s++) {
                numbers[s] = sentTo >> 2 * numbers[s] & 3;
                reached |= 1 << numbers[s];
            }
            numbers[4] = Integer.bitCount(reached);
        }

        private void addNest(int value) {
            if (value >= 0) {
                numbers[1]++;
            } else if (numbers[1] > 0) {
                numbers[1]--;
                numbers[2]++;
            } else {
                numbers[0]++;
            }
            // couples cancel out, so the excess is that of the unmatched ones
            numbers[3] = Math.max(numbers[3], numbers[1] - numbers[0]);
        }

        private void addLike(int value) {
            if (count > 0 && value == numbers[6]) {
                numbers[4]++;
            } else {
                numbers[2]++;
                numbers[4] = 1;
            }
            if (count == 0) {
                numbers[5] = value;
            }
            if (numbers[2] == 1) {
                numbers[3] = numbers[4];
            }
            if (numbers[4] > numbers[0]) {
                numbers[0] = numbers[4];
                numbers[1] = value;
            }
            numbers[6] = value;
        }

        private void addStep(int value) {
            boolean isFirst = count == 0;
            boolean falls = !isFirst && value < numbers[3];
            boolean climbs = !isFirst && value > numbers[3];
            numbers[0] += falls ? 1 : 0;
            numbers[1] += climbs ? 1 : 0;
            numbers[2] = isFirst ? value : numbers[2];
            numbers[3] = value;
            rising = falls ? 1 : rising + 1;
            numbers[4] = Math.max(numbers[4], rising);
        }

        private void addSpread(int value) {
            if (value > 0 && (numbers[0] == NOTHING || value < numbers[0])) {
                numbers[0] = value;
            } else if (value < 0) {
                numbers[1] = Math.max(numbers[1], value);
            } else if (value == 0) {
                numbers[2]++;
            }
        }

        private void addElement(int value) {
            int element = Math.floorMod(value, ELEMENTS);
            numbers[0] = count == 0 ? element : cells[ELEMENTS * numbers[0] + element];
        }
    }

    /**
     * How many of a lane's events are FRONT, MIDDLE and BACK, and what its MOVES took. The folds themselves need not
     * stand here: what they come to is the same by any way of combining.
     */
    private static final class Flip {
        private int front;
        private int middle;
        private int back;
        /** The STEPS that are left; a FLIP goes on as long as MIDDLE holds some. */
        private int left;
        private int latest;
        private int spent;
        private int most;

        void clear() {
            front = 0;
            middle = 0;
            back = 0;
            left = 0;
            latest = 0;
            spent = 0;
            most = 0;
        }

        void copyFrom(Flip other) {
            front = other.front;
            middle = other.middle;
            back = other.back;
            left = other.left;
            latest = other.latest;
            spent = other.spent;
            most = other.most;
        }

        void add() {
            int combinations = back > 0 ? 1 : 0;
            back++;
            endMove(combinations);
        }

        /** The oldest one is the last of the STEPS: while a FLIP goes on it is always among those that are left. */
        void drop() {
            front--;
            if (left > 0) {
                left--;
            }
            endMove(0);
        }

        void layAnew(int held) {
            front = held;
            middle = 0;
            back = 0;
            left = 0;
            latest = Math.max(0, held - 1);
            spent += latest;
        }

        private void endMove(int combinations) {
            int taken = combinations;
            if (middle == 0 && back > front) {
                middle = back;
                back = 0;
                left = middle + front;
                // the first STEP is without a COMBINATION
                taken--;
            }
            int steps = Math.min(STEPS_A_MOVE, left);
            left -= steps;
            taken += steps;
            if (left == 0) {
                front += middle;
                middle = 0;
            }
            latest = taken;
            spent += taken;
            most = Math.max(most, taken);
        }

        int told(int what) {
            switch (what) {
                case 0:
                    return front;
                case 1:
                    return middle;
                case 2:
                    return back;
                case 3:
                    return left;
                case 4:
                    return latest;
                case 5:
                    return spent;
                case 6:
                    return most;
                default:
                    return NONE;
            }
        }
    }

    /** A lane, open or not; or what a box keeps of one: then it is open if one is kept there. */
    private static final class Lane {
        private int number;
        private boolean isOpen;
        private int operation;
        private int by;
        private int size;
        private int slack;
        private int held;
        private final int[] times;
        private final int[] values;
        private final int[] orders;
        private int newest;
        private int lost;
        private int came;
        private int dropped;
        private int ahead;
        private int most;
        private final Flip flip;

        /** One more than can be held, as by COUNT one comes before the oldest goes. */
        Lane(int number) {
            this.number = number;
            times = new int[MOST_HELD + 1];
            values = new int[MOST_HELD + 1];
            orders = new int[MOST_HELD + 1];
            flip = new Flip();
        }

        void begin(int operation, int by, int size, int slack) {
            isOpen = true;
            this.operation = operation;
            this.by = by;
            this.size = size;
            this.slack = slack;
            held = 0;
            newest = NONE;
            lost = 0;
            came = 0;
            dropped = 0;
            ahead = 0;
            most = 0;
            flip.clear();
        }

        void copyFrom(Lane other) {
            number = other.number;
            isOpen = other.isOpen;
            operation = other.operation;
            by = other.by;
            size = other.size;
            slack = other.slack;
            held = other.held;
            System.arraycopy(other.times, 0, times, 0, held);
            System.arraycopy(other.values, 0, values, 0, held);
            System.arraycopy(other.orders, 0, orders, 0, held);
            newest = other.newest;
            lost = other.lost;
            came = other.came;
            dropped = other.dropped;
            ahead = other.ahead;
            most = other.most;
            flip.copyFrom(other.flip);
        }

        boolean hasNumber(int what) {
            return within(what, 0, NUMBERS[operation] - 1);
        }

        boolean isFull() {
            return by != BY_COUNT && held >= MOST_HELD;
        }

        boolean isTooLate(int time) {
            return time < newest - slack;
        }

        /** How many are of a time or one ahead of it: a long, so that the one ahead of the least int can be asked. */
        int heldUntil(long time) {
            int count = held;
            while (count > 0 && times[count - 1] > time) {
                count--;
            }
            return count;
        }

        boolean startsSession(int event, int gap) {
            return event == 0 || times[event] - times[event - 1] > gap;
        }

        /** Whether the oldest of so many goes, if it is of this time. */
        boolean goes(int many, int time, int newestTime) {
            return by == BY_COUNT && many > size || by == BY_TIME && time <= newestTime - size;
        }

        void insert(int at, int time, int value) {
            ahead = held - at;
            shift(at, at + 1, ahead);
            times[at] = time;
            values[at] = value;
            orders[at] = came;
            held++;
            came++;
            newest = Math.max(newest, time);
        }

        void remove(int event) {
            shift(event + 1, event, held - event - 1);
            held--;
        }

        private void shift(int from, int to, int many) {
            System.arraycopy(times, from, times, to, many);
            System.arraycopy(values, from, values, to, many);
            System.arraycopy(orders, from, orders, to, many);
        }

        int told(int what) {
            switch (what) {
                case 0:
                    return operation;
                case 1:
                    return by;
                case 2:
                    return size;
                case 3:
                    return slack;
                case 4:
                    return held;
                case 5:
                    return newest;
                case 6:
                    return lost;
                case 7:
                    return came;
                case 8:
                    return dropped;
                case 9:
                    return ahead;
                case 10:
                    return most;
                default:
                    return NONE;
            }
        }
    }

    /** A watch; one that is not told has no lane. */
    private static final class Watch {
        private int lane = NONE;
        private int what;
        private int bound;
        private boolean wasReached;
        private int rings;
        private int rang;

        void begin(int lane, int what, int bound, boolean isReached) {
            this.lane = lane;
            this.what = what;
            this.bound = bound;
            wasReached = isReached;
            rings = 0;
            rang = NONE;
        }

        void note(boolean isReached, int newest) {
            if (isReached && !wasReached) {
                rings++;
                rang = newest;
            }
            wasReached = isReached;
        }

        void end() {
            lane = NONE;
        }
    }

    /** Where a lane gives its sessions; one that is not linked gives to none. */
    private static final class Link {
        private int to = NONE;
        private int gap;
        private int what;
        private int came;

        void begin(int other, int gap, int what) {
            to = other;
            this.gap = gap;
            this.what = what;
            came = 0;
        }

        void end() {
            to = NONE;
        }

        int told(int what) {
            switch (what) {
                case 0:
                    return to;
                case 1:
                    return gap;
                case 2:
                    return this.what;
                case 3:
                    return came;
                default:
                    return NONE;
            }
        }
    }
}
