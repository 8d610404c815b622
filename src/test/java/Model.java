import java.util.ArrayList;
import java.util.Arrays;
import java.util.Collections;
import java.util.List;
import java.util.TreeMap;

/** The document's promises once more, in their plainest form: lists, and each flip's steps one by one. */
final class Model {
    static final int NONE = -1;
    static final int NOTHING = Integer.MIN_VALUE;

    enum Row { FRONT, MIDDLE, BACK }

    static final class Event {
        final int time;
        int value;
        final int order;
        Row row;

        Event(int time, int value, int order) {
            this.time = time;
            this.value = value;
            this.order = order;
        }

        Event copy() {
            Event other = new Event(time, value, order);
            other.row = row;
            return other;
        }
    }

    static final class Lane {
        int number;
        int operation;
        int by;
        int size;
        int slack;
        List<Event> events = new ArrayList<>();
        /** The events of the steps that are left, in the order in which they are taken; null without a flip. */
        List<Event> steps = null;
        boolean firstStep;
        int newest = NONE;
        int lost;
        int came;
        int dropped;
        int ahead;
        int most;
        int latest;
        int spent;
        int mostOfMove;

        Lane copy() {
            Lane other = new Lane();
            other.number = number;
            other.operation = operation;
            other.by = by;
            other.size = size;
            other.slack = slack;
            for (Event e : events) {
                other.events.add(e.copy());
            }
            if (steps != null) {
                other.steps = new ArrayList<>();
                for (Event e : steps) {
                    other.steps.add(other.events.get(events.indexOf(e)));
                }
            }
            other.firstStep = firstStep;
            other.newest = newest;
            other.lost = lost;
            other.came = came;
            other.dropped = dropped;
            other.ahead = ahead;
            other.most = most;
            other.latest = latest;
            other.spent = spent;
            other.mostOfMove = mostOfMove;
            return other;
        }

        int in(Row row) {
            return (int) events.stream().filter(e -> e.row == row).count();
        }

        List<Integer> values() {
            List<Integer> all = new ArrayList<>();
            for (Event e : events) {
                all.add(e.value);
            }
            return all;
        }
    }

    static final class Watch {
        int lane;
        int what;
        int bound;
        boolean was;
        int rings;
        int rang = NONE;
    }

    static final class Link {
        int to;
        int gap;
        int what;
        int came;
    }

    final Lane[] lanes = new Lane[4];
    private final Lane[] boxes = new Lane[3];
    private final Watch[] watches = new Watch[8];
    private final Link[] links = new Link[4];
    private final int[] cells = new int[16];
    private final int[] sends = new int[8];

    Model() {
        Arrays.fill(sends, 3 * 64 + 2 * 16 + 4);
    }

    // ---- helpers

    Lane at(int lane) {
        return lane >= 0 && lane < 4 ? lanes[lane] : null;
    }

    private Lane at(int lane, int what) {
        Lane l = at(lane);
        return l != null && what >= 0 && what < Comes.NUMBERS[l.operation] ? l : null;
    }

    private Event at(Lane l, int event) {
        return l != null && event >= 0 && event < l.events.size() ? l.events.get(event) : null;
    }

    private int number(Lane l, List<Integer> values, int what) {
        return values.isEmpty() ? NOTHING : Comes.to(l.operation, values, sends, cells)[what];
    }

    private boolean reached(Lane l, List<Integer> values, int what, int bound) {
        int number = number(l, values, what);
        return number != NOTHING && number >= bound;
    }

    private boolean used(int operation) {
        for (Lane l : lanes) {
            if (l != null && l.operation == operation) {
                return true;
            }
        }
        for (Lane l : boxes) {
            if (l != null && l.operation == operation) {
                return true;
            }
        }
        return false;
    }

    // ---- moves

    private void ring(Lane l) {
        for (Watch w : watches) {
            if (w != null && w.lane == l.number) {
                boolean now = reached(l, l.values(), w.what, w.bound);
                if (now && !w.was) {
                    w.rings++;
                    w.rang = l.newest;
                }
                w.was = now;
            }
        }
    }

    private void endMove(Lane l, int taken) {
        int combinations = taken;
        if (l.steps == null && l.in(Row.BACK) > l.in(Row.FRONT)) {
            l.steps = new ArrayList<>();
            for (Event e : l.events) {
                e.row = e.row == Row.BACK ? Row.MIDDLE : e.row;
            }
            for (Row row : new Row[] {Row.MIDDLE, Row.FRONT}) {
                for (int i = l.events.size() - 1; i >= 0; i--) {
                    if (l.events.get(i).row == row) {
                        l.steps.add(l.events.get(i));
                    }
                }
            }
            l.firstStep = true;
        }
        if (l.steps != null) {
            for (int i = 0; i < 3 && !l.steps.isEmpty(); i++) {
                l.steps.remove(0);
                combinations += l.firstStep ? 0 : 1;
                l.firstStep = false;
            }
            if (l.steps.isEmpty()) {
                l.steps = null;
                for (Event e : l.events) {
                    e.row = e.row == Row.MIDDLE ? Row.FRONT : e.row;
                }
            }
        }
        l.latest = combinations;
        l.spent += combinations;
        l.mostOfMove = Math.max(l.mostOfMove, combinations);
        ring(l);
    }

    private void layAnew(Lane l) {
        l.steps = null;
        for (Event e : l.events) {
            e.row = Row.FRONT;
        }
        l.latest = Math.max(0, l.events.size() - 1);
        l.spent += l.latest;
        ring(l);
    }

    private void drop(Lane l) {
        Event e = l.events.remove(0);
        if (e.row != Row.FRONT) {
            throw new IllegalStateException("one that drops goes from FRONT");
        }
        if (l.steps != null) {
            l.steps.remove(e);
        }
        l.dropped++;
        endMove(l, 0);
    }

    private void add(Lane l, Event e) {
        int taken = l.in(Row.BACK) > 0 ? 1 : 0;
        e.row = Row.BACK;
        l.events.add(e);
        endMove(l, taken);
    }

    private void place(Lane l, int time, int value) {
        int place = 0;
        for (int i = 0; i < l.events.size(); i++) {
            if (l.events.get(i).time <= time) {
                place = i + 1;
            }
        }
        l.ahead = l.events.size() - place;
        Event e = new Event(time, value, l.came++);
        l.newest = Math.max(l.newest, time);
        if (l.ahead == 0) {
            add(l, e);
        } else {
            l.events.add(place, e);
            layAnew(l);
        }
        if (l.by == 1) {
            while (l.events.size() > l.size) {
                drop(l);
            }
        } else if (l.by == 2) {
            while (!l.events.isEmpty() && l.events.get(0).time <= l.newest - l.size) {
                drop(l);
            }
        }
    }

    private boolean full(Lane l) {
        return l.by != 1 && l.events.size() == 120;
    }

    private void comes(Lane l, int time, int value) {
        Link link = links[l.number];
        if (link != null && !l.events.isEmpty()) {
            Event newest = l.events.get(l.events.size() - 1);
            Lane other = lanes[link.to];
            if (time - newest.time > link.gap && !full(other)) {
                List<List<Event>> all = sessions(l, link.gap);
                List<Integer> values = values(all.get(all.size() - 1));
                int number = number(l, values, link.what);
                if (number != NOTHING) {
                    if (newest.time < other.newest - other.slack) {
                        other.lost++;
                    } else {
                        link.came++;
                        place(other, newest.time, Math.min(1000, Math.max(-1000, number)));
                    }
                }
            }
        }
        place(l, time, value);
    }

    private void behindCall() {
        for (Lane l : lanes) {
            if (l != null) {
                l.most = Math.max(l.most, l.events.size());
            }
        }
    }

    private static List<Integer> values(List<Event> events) {
        List<Integer> all = new ArrayList<>();
        for (Event e : events) {
            all.add(e.value);
        }
        return all;
    }

    private static List<List<Event>> sessions(Lane l, int gap) {
        List<List<Event>> all = new ArrayList<>();
        Event ahead = null;
        for (Event e : l.events) {
            if (ahead == null || e.time - ahead.time > gap) {
                all.add(new ArrayList<>());
            }
            all.get(all.size() - 1).add(e);
            ahead = e;
        }
        return all;
    }

    // ---- promises 2 to 5

    public boolean table(int cell, int element) {
        if (cell < 0 || cell > 15 || element < 0 || element > 3 || used(9)) {
            return false;
        }
        cells[cell] = element;
        return true;
    }

    public boolean letter(int letter, int sends) {
        if (letter < 0 || letter > 7 || sends < 0 || sends > 255 || used(4)) {
            return false;
        }
        this.sends[letter] = sends;
        return true;
    }

    private int p(int x, int y) {
        return cells[4 * x + y];
    }

    public int triple(int what) {
        int alike = 0;
        int[] first = null;
        for (int x = 0; x < 4; x++) {
            for (int y = 0; y < 4; y++) {
                for (int z = 0; z < 4; z++) {
                    if (p(p(x, y), z) == p(x, p(y, z))) {
                        alike++;
                    } else if (first == null) {
                        first = new int[] {x, y, z};
                    }
                }
            }
        }
        if (what == 3) {
            return alike;
        }
        return what < 0 || what > 2 || first == null ? NONE : first[what];
    }

    public int element(int what) {
        int idempotent = 0;
        int alike = 0;
        int neutral = NONE;
        int absorbing = NONE;
        for (int x = 3; x >= 0; x--) {
            boolean leaves = true;
            boolean makes = true;
            for (int y = 0; y < 4; y++) {
                alike += p(x, y) == p(y, x) ? 1 : 0;
                leaves &= p(x, y) == y && p(y, x) == y;
                makes &= p(x, y) == x && p(y, x) == x;
            }
            idempotent += p(x, x) == x ? 1 : 0;
            neutral = leaves ? x : neutral;
            absorbing = makes ? x : absorbing;
        }
        int[] all = {neutral, absorbing, idempotent, alike};
        return what < 0 || what > 3 ? NONE : all[what];
    }

    // ---- promises 6 to 14

    private void endTies(int lane) {
        for (int i = 0; i < 8; i++) {
            if (watches[i] != null && watches[i].lane == lane) {
                watches[i] = null;
            }
        }
        for (int i = 0; i < 4; i++) {
            if (links[i] != null && (i == lane || links[i].to == lane)) {
                links[i] = null;
            }
        }
    }

    public int open(int lane, int operation, int by, int size, int slack) {
        boolean can = lane >= 0 && lane < 4 && operation >= 0 && operation < 10 && by >= 0 && by < 3
                && slack >= 0 && slack <= 10000;
        can = can && (by == 0 || size >= 1 && size <= (by == 1 ? 120 : 10000));
        if (!can || operation == 9 && triple(3) < 64) {
            return NONE;
        }
        Lane l = new Lane();
        l.number = lane;
        l.operation = operation;
        l.by = by;
        l.size = by == 0 ? 0 : size;
        l.slack = slack;
        lanes[lane] = l;
        endTies(lane);
        return about(0);
    }

    public boolean shut(int lane) {
        if (at(lane) == null) {
            return false;
        }
        lanes[lane] = null;
        endTies(lane);
        return true;
    }

    public int come(int lane, int time, int value) {
        Lane l = at(lane);
        if (l == null || time < 0 || time > 100000 || value < -1000 || value > 1000) {
            return NONE;
        }
        if (time < l.newest - l.slack) {
            l.lost++;
            return -2;
        }
        if (full(l)) {
            return NONE;
        }
        comes(l, time, value);
        behindCall();
        return l.events.size();
    }

    public int burst(int lane, int many, int value, int step) {
        Lane l = at(lane);
        if (l == null || many < 1 || many > 40 || step < -1000 || step > 1000) {
            return NONE;
        }
        long last = value + (many - 1L) * step;
        if (value < -1000 || value > 1000 || last < -1000 || last > 1000 || l.newest + many > 100000) {
            return NONE;
        }
        if (l.by != 1 && l.events.size() + many > 120) {
            return NONE;
        }
        for (int i = 0; i < many; i++) {
            comes(l, l.newest + 1, value + i * step);
        }
        behindCall();
        return l.events.size();
    }

    public int leave(int lane, int many) {
        Lane l = at(lane);
        if (l == null || many < 0 || many > l.events.size()) {
            return NONE;
        }
        for (int i = 0; i < many; i++) {
            drop(l);
        }
        return l.events.size();
    }

    public int until(int lane, int time) {
        Lane l = at(lane);
        if (l == null) {
            return NONE;
        }
        int count = 0;
        while (!l.events.isEmpty() && l.events.get(0).time <= time) {
            drop(l);
            count++;
        }
        return count;
    }

    public int take(int lane, int event) {
        Lane l = at(lane);
        Event e = at(l, event);
        if (e == null) {
            return NOTHING;
        }
        l.events.remove(e);
        layAnew(l);
        return e.value;
    }

    public boolean alter(int lane, int event, int value) {
        Lane l = at(lane);
        Event e = at(l, event);
        if (e == null || value < -1000 || value > 1000) {
            return false;
        }
        e.value = value;
        layAnew(l);
        return true;
    }

    public int event(int lane, int event, int what) {
        Event e = at(at(lane), event);
        if (e == null) {
            return NOTHING;
        }
        return what == 0 ? e.time : what == 1 ? e.value : what == 2 ? e.order : NOTHING;
    }

    // ---- promises 15 to 29 and 35

    public int total(int lane, int what) {
        Lane l = at(lane, what);
        return l == null ? NOTHING : number(l, l.values(), what);
    }

    public int part(int lane, int from, int to, int what) {
        Lane l = at(lane, what);
        if (at(l, from) == null || at(l, to) == null || from > to) {
            return NOTHING;
        }
        return number(l, l.values().subList(from, to + 1), what);
    }

    public int during(int lane, int from, int to, int what) {
        Lane l = at(lane, what);
        if (l == null) {
            return NOTHING;
        }
        List<Integer> some = new ArrayList<>();
        for (Event e : l.events) {
            if (from <= e.time && e.time <= to) {
                some.add(e.value);
            }
        }
        return number(l, some, what);
    }

    public int many(int lane, int from, int to) {
        Lane l = at(lane);
        return l == null ? NONE : (int) l.events.stream().filter(e -> from <= e.time && e.time <= to).count();
    }

    public int reach(int lane, int what, int bound) {
        Lane l = at(lane, what);
        int n = l == null ? 0 : l.events.size();
        for (int many = 1; many <= n; many++) {
            if (reached(l, l.values().subList(0, many), what, bound)) {
                return many;
            }
        }
        return NONE;
    }

    public int reachBack(int lane, int what, int bound) {
        Lane l = at(lane, what);
        int n = l == null ? 0 : l.events.size();
        for (int many = 1; many <= n; many++) {
            if (reached(l, l.values().subList(n - many, n), what, bound)) {
                return many;
            }
        }
        return NONE;
    }

    public int peak(int lane, int many, int what) {
        int first = peakAt(lane, many, what);
        return first == NONE ? NOTHING : part(lane, first, first + many - 1, what);
    }

    public int peakAt(int lane, int many, int what) {
        Lane l = at(lane, what);
        if (l == null || many < 1 || many > l.events.size()) {
            return NONE;
        }
        List<Integer> numbers = new ArrayList<>();
        for (int from = 0; from + many <= l.events.size(); from++) {
            numbers.add(part(lane, from, from + many - 1, what));
        }
        return numbers.indexOf(Collections.max(numbers));
    }

    public int without(int lane, int event, int what) {
        Lane l = at(lane, what);
        if (at(l, event) == null) {
            return NOTHING;
        }
        List<Integer> others = l.values();
        others.remove(event);
        return number(l, others, what);
    }

    public int spare(int lane, int what) {
        Lane l = at(lane, what);
        if (l == null || l.events.size() < 2) {
            return NONE;
        }
        List<Integer> numbers = new ArrayList<>();
        for (int event = 0; event < l.events.size(); event++) {
            numbers.add(without(lane, event, what));
        }
        return numbers.indexOf(Collections.max(numbers));
    }

    public int turned(int lane, int what) {
        Lane l = at(lane, what);
        if (l == null) {
            return NOTHING;
        }
        List<Integer> values = l.values();
        Collections.reverse(values);
        return number(l, values, what);
    }

    private boolean alike(Lane l, List<Integer> one, List<Integer> other) {
        if (one.isEmpty() || other.isEmpty()) {
            return one.isEmpty() && other.isEmpty();
        }
        return Arrays.equals(Comes.to(l.operation, one, sends, cells), Comes.to(l.operation, other, sends, cells));
    }

    public int commutes(int lane, int event) {
        Lane l = at(lane);
        if (at(l, event) == null || event + 1 == l.events.size()) {
            return NONE;
        }
        List<Integer> other = l.values();
        Collections.swap(other, event, event + 1);
        return alike(l, l.values(), other) ? 1 : 0;
    }

    public int joined(int lane, int other, int what) {
        Lane l = at(lane, what);
        Lane m = at(other, what);
        if (l == null || m == null || l.operation != m.operation) {
            return NOTHING;
        }
        List<Integer> all = l.values();
        all.addAll(m.values());
        return number(l, all, what);
    }

    public int woven(int lane, int other, int what) {
        Lane l = at(lane, what);
        Lane m = at(other, what);
        if (l == null || m == null || l.operation != m.operation) {
            return NOTHING;
        }
        List<Event> all = new ArrayList<>(l.events);
        all.addAll(m.events);
        all.sort((a, b) -> Integer.compare(a.time, b.time));
        return number(l, values(all), what);
    }

    public int same(int lane, int other) {
        Lane l = at(lane);
        Lane m = at(other);
        if (l == null || m == null || l.operation != m.operation) {
            return NONE;
        }
        return alike(l, l.values(), m.values()) ? 1 : 0;
    }

    public int law(int lane, int how, int what) {
        return how < 0 || how > 2 ? NOTHING : total(lane, what);
    }

    // ---- promises 30 to 34

    private TreeMap<Integer, Integer> panesOf(Lane l, int width) {
        TreeMap<Integer, Integer> all = new TreeMap<>();
        for (Event e : l.events) {
            all.merge(e.time / width, 1, Integer::sum);
        }
        return all;
    }

    public int panes(int lane, int width) {
        Lane l = at(lane);
        return l == null || width < 1 || width > 100000 ? NONE : panesOf(l, width).size();
    }

    public int fullest(int lane, int width) {
        Lane l = at(lane);
        if (l == null || width < 1 || width > 100000 || l.events.isEmpty()) {
            return NONE;
        }
        TreeMap<Integer, Integer> all = panesOf(l, width);
        int most = Collections.max(all.values());
        return all.entrySet().stream().filter(e -> e.getValue() == most).findFirst().get().getKey();
    }

    private static boolean gap(int gap) {
        return gap >= 0 && gap <= 100000;
    }

    public int sessions(int lane, int gap) {
        Lane l = at(lane);
        return l == null || !gap(gap) ? NONE : sessions(l, gap).size();
    }

    public int session(int lane, int gap, int session, int what) {
        Lane l = at(lane, what);
        if (l == null || !gap(gap)) {
            return NOTHING;
        }
        List<List<Event>> all = sessions(l, gap);
        return session < 0 || session >= all.size() ? NOTHING : number(l, values(all.get(session)), what);
    }

    public int longest(int lane, int gap) {
        Lane l = at(lane);
        if (l == null || !gap(gap) || l.events.isEmpty()) {
            return NONE;
        }
        List<Integer> sizes = new ArrayList<>();
        for (List<Event> session : sessions(l, gap)) {
            sizes.add(session.size());
        }
        return sizes.indexOf(Collections.max(sizes));
    }

    // ---- promises 36 to 38 and 48

    public int state(int lane, int what) {
        Lane l = at(lane);
        if (l == null || what < 0 || what > 6) {
            return NONE;
        }
        int left = l.steps == null ? 0 : l.steps.size();
        int[] all = {l.in(Row.FRONT), l.in(Row.MIDDLE), l.in(Row.BACK), left, l.latest, l.spent, l.mostOfMove};
        return all[what];
    }

    public int soon(int lane, int what) {
        Lane l = at(lane);
        if (l == null || what < 0 || what > 1 || (what == 0) == (l.steps != null)) {
            return NONE;
        }
        Lane trial = l.copy();
        trial.number = NONE;
        int count = 0;
        int front = l.in(Row.FRONT);
        while (what == 1 && trial.steps != null) {
            add(trial, new Event(0, 0, 0));
            count++;
        }
        while (what == 0 && trial.steps == null && (count == 0 || trial.in(Row.FRONT) == front)) {
            add(trial, new Event(0, 0, 0));
            count++;
        }
        return count;
    }

    public int lane(int lane, int what) {
        Lane l = at(lane);
        if (l == null || what < 0 || what > 10) {
            return NONE;
        }
        int[] all = {l.operation, l.by, l.size, l.slack, l.events.size(), l.newest, l.lost, l.came, l.dropped, l.ahead,
            l.most};
        return all[what];
    }

    public int cost(int lane, int many, int what) {
        Lane l = at(lane);
        if (l == null || many < 0 || many > 200 || what < 0 || what > 1) {
            return NONE;
        }
        Lane trial = l.copy();
        trial.number = NONE;
        trial.mostOfMove = 0;
        for (int i = 0; i < many; i++) {
            add(trial, new Event(0, 0, 0));
        }
        return what == 0 ? trial.spent - l.spent : trial.mostOfMove;
    }

    // ---- promises 39 to 44

    public int watch(int watch, int lane, int what, int bound) {
        Lane l = at(lane, what);
        if (l == null || watch < 0 || watch > 7) {
            return NONE;
        }
        Watch w = new Watch();
        w.lane = lane;
        w.what = what;
        w.bound = bound;
        w.was = reached(l, l.values(), what, bound);
        watches[watch] = w;
        return w.was ? 1 : 0;
    }

    private Watch told(int watch) {
        return watch >= 0 && watch < 8 ? watches[watch] : null;
    }

    public int rings(int watch) {
        return told(watch) == null ? NONE : told(watch).rings;
    }

    public int rang(int watch) {
        return told(watch) == null ? NONE : told(watch).rang;
    }

    public boolean link(int lane, int other, int gap, int what) {
        if (at(lane, what) == null || at(other) == null || lane == other || !gap(gap) || links[other] != null) {
            return false;
        }
        for (Link link : links) {
            if (link != null && link.to == lane) {
                return false;
            }
        }
        links[lane] = new Link();
        links[lane].to = other;
        links[lane].gap = gap;
        links[lane].what = what;
        return true;
    }

    public boolean unlink(int lane) {
        if (lane < 0 || lane > 3 || links[lane] == null) {
            return false;
        }
        links[lane] = null;
        return true;
    }

    public int linked(int lane, int what) {
        if (lane < 0 || lane > 3 || links[lane] == null || what < 0 || what > 3) {
            return NONE;
        }
        Link link = links[lane];
        return new int[] {link.to, link.gap, link.what, link.came}[what];
    }

    // ---- promises 45 to 47 and 49

    public int shortest(int lane, int what, int bound, int k) {
        Lane l = at(lane, what);
        if (l == null || k < 0 || k > 1) {
            return NONE;
        }
        int n = l.events.size();
        for (int many = 1; many <= n; many++) {
            for (int from = 0; from + many <= n; from++) {
                if (reached(l, l.values().subList(from, from + many), what, bound)) {
                    return k == 0 ? many : from;
                }
            }
        }
        return NONE;
    }

    public int windows(int lane, int what, int low, int high) {
        Lane l = at(lane, what);
        if (l == null) {
            return NONE;
        }
        int count = 0;
        for (int from = 0; from < l.events.size(); from++) {
            for (int to = from; to < l.events.size(); to++) {
                int number = part(lane, from, to, what);
                count += number != NOTHING && low <= number && number <= high ? 1 : 0;
            }
        }
        return count;
    }

    public int were(int lane, int time, int value, int what) {
        Lane l = at(lane, what);
        if (l == null || time < 0 || time > 100000 || value < -1000 || value > 1000) {
            return NOTHING;
        }
        if (time < l.newest - l.slack || full(l)) {
            return NOTHING;
        }
        Lane trial = l.copy();
        trial.number = NONE;
        place(trial, time, value);
        return number(trial, trial.values(), what);
    }

    /** Each way, by the second row's begin, then the third one's ..: the first one that is most. */
    public int parted(int lane, int rows, int what, int i) {
        Lane l = at(lane, what);
        if (l == null || rows < 1 || rows > 4 || i < 0 || i > rows) {
            return NOTHING;
        }
        int n = l.events.size();
        int[][] all = new int[n + 1][n + 1];
        for (int from = 0; from < n; from++) {
            for (int to = from + 1; to <= n; to++) {
                all[from][to] = part(lane, from, to - 1, what);
            }
        }
        int[] starts = new int[rows];
        int[] best = new int[rows + 1];
        best[0] = NOTHING;
        parted(all, starts, 1, best);
        return best[0] == NOTHING ? NOTHING : best[i];
    }

    private void parted(int[][] all, int[] starts, int row, int[] best) {
        int n = all.length - 1;
        if (row < starts.length) {
            for (int start = starts[row - 1] + 1; start < n; start++) {
                starts[row] = start;
                parted(all, starts, row + 1, best);
            }
            return;
        }
        int sum = 0;
        for (int r = 0; r < starts.length; r++) {
            int end = r + 1 < starts.length ? starts[r + 1] : n;
            if (n == 0 || all[starts[r]][end] == NOTHING) {
                return;
            }
            sum += all[starts[r]][end];
        }
        if (best[0] == NOTHING || sum > best[0]) {
            best[0] = sum;
            System.arraycopy(starts, 0, best, 1, starts.length);
        }
    }

    // ---- promises 50 to 52

    public int keep(int lane, int box) {
        Lane l = at(lane);
        if (l == null || box < 0 || box > 2) {
            return NONE;
        }
        boxes[box] = l.copy();
        return l.events.size();
    }

    public int back(int box) {
        if (box < 0 || box > 2 || boxes[box] == null) {
            return NONE;
        }
        Lane l = boxes[box].copy();
        lanes[l.number] = l;
        endTies(l.number);
        return l.events.size();
    }

    public int about(int what) {
        int[] all = new int[7];
        for (int i = 0; i < 4; i++) {
            all[0] += lanes[i] != null ? 1 : 0;
            all[1] += lanes[i] != null ? lanes[i].events.size() : 0;
            all[2] += lanes[i] != null ? lanes[i].spent : 0;
            all[6] += links[i] != null ? 1 : 0;
        }
        for (Watch w : watches) {
            all[3] += w != null ? 1 : 0;
            all[5] += w != null ? w.rings : 0;
        }
        for (Lane l : boxes) {
            all[4] += l != null ? 1 : 0;
        }
        return what < 0 || what > 6 ? NONE : all[what];
    }
}
