/** Promises 1 to 5: a new object, the TABLE and the LETTERS. */
public final class TableTest {
    public static void main(String[] args) {
        fresh();
        table();
        letter();
        triple();
        element();
        Due.end("TableTest");
    }

    private static void fill(SlideFold x, int... cells) {
        for (int i = 0; i < cells.length; i++) {
            x.table(i, cells[i]);
        }
    }

    private static SlideFold minus() {
        SlideFold x = new SlideFold();
        fill(x, 0, 3, 2, 1, 1, 0, 3, 2, 2, 1, 0, 3, 3, 2, 1, 0);
        return x;
    }

    private static SlideFold plus() {
        SlideFold x = new SlideFold();
        fill(x, 0, 1, 2, 3, 1, 2, 3, 0, 2, 3, 0, 1, 3, 0, 1, 2);
        return x;
    }

    private static SlideFold times() {
        SlideFold x = new SlideFold();
        fill(x, 0, 0, 0, 0, 0, 1, 2, 3, 0, 2, 0, 2, 0, 3, 2, 1);
        return x;
    }

    private static SlideFold left() {
        SlideFold x = new SlideFold();
        fill(x, 0, 0, 0, 0, 1, 1, 1, 1, 2, 2, 2, 2, 3, 3, 3, 3);
        return x;
    }

    private static SlideFold right() {
        SlideFold x = new SlideFold();
        fill(x, 0, 1, 2, 3, 0, 1, 2, 3, 0, 1, 2, 3, 0, 1, 2, 3);
        return x;
    }

    private static SlideFold greater() {
        SlideFold x = new SlideFold();
        fill(x, 0, 1, 2, 3, 1, 1, 2, 3, 2, 2, 2, 3, 3, 3, 3, 3);
        return x;
    }

    private static void fresh() {
        Due.promise(1);
        SlideFold x = new SlideFold();
        for (int lane = 0; lane < 4; lane++) {
            Due.is("lane", x.lane(lane, 0), Lanes.NONE);
            Due.is("shut", x.shut(lane), false);
            Due.is("linked", x.linked(lane, 0), Lanes.NONE);
        }
        for (int watch = 0; watch < 8; watch++) {
            Due.is("rings", x.rings(watch), Lanes.NONE);
        }
        for (int box = 0; box < 3; box++) {
            Due.is("back", x.back(box), Lanes.NONE);
        }
        for (int what = 0; what < 7; what++) {
            Due.is("about", x.about(what), 0);
        }
        Due.is("NONE", SlideFold.NONE, -1);
        Due.is("NOTHING", SlideFold.NOTHING, Integer.MIN_VALUE);
    }

    private static void table() {
        Due.promise(2);
        SlideFold x = new SlideFold();
        Due.is("table(15, 3)", x.table(15, 3), true);
        Due.is("3 3 is 3", x.element(2), 2);
        Due.is("table(15, 0)", x.table(15, 0), true);
        Due.is("table(0, 0)", x.table(0, 0), true);
        Due.is("table(0, 4)", x.table(0, 4), false);
        Due.is("table(16, 0)", x.table(16, 0), false);
        for (int far : Lanes.FAR) {
            Due.is("table(far, 0)", x.table(far, 0), false);
            Due.is("table(0, far)", x.table(0, far), false);
        }
        Due.is("nothing done", x.element(1), 0);
        for (int operation = 0; operation < 9; operation++) {
            x.open(1, operation, Lanes.HAND, 0, 0);
            Due.is("another operation", x.table(0, 0), true);
        }
        tableInUse();
    }

    private static void tableInUse() {
        SlideFold x = left();
        x.open(3, 9, Lanes.HAND, 0, 0);
        Due.is("an open lane", x.table(5, 2), false);
        Due.is("the same element", x.table(5, 1), false);
        x.keep(3, 2);
        x.open(3, 8, Lanes.HAND, 0, 0);
        Due.is("a box", x.table(5, 2), false);
        Due.is("nothing done", x.element(2), 4);
        x.shut(3);
        Due.is("a box alone", x.table(5, 2), false);
        x.open(0, 8, Lanes.HAND, 0, 0);
        x.keep(0, 2);
        x.open(0, 9, Lanes.HAND, 0, 0);
        Due.is("lane 0", x.table(5, 2), false);
        x.shut(0);
        Due.is("no more", x.table(5, 2), true);
        Due.is("done", x.element(2), 3);
    }

    private static void letter() {
        Due.promise(3);
        SlideFold x = new SlideFold();
        Due.is("letter(0, 255)", x.letter(0, 255), true);
        Due.is("letter(7, 0)", x.letter(7, 0), true);
        Due.is("letter(8, 0)", x.letter(8, 0), false);
        Due.is("letter(0, 256)", x.letter(0, 256), false);
        for (int far : Lanes.FAR) {
            Due.is("letter(far, 0)", x.letter(far, 0), false);
            Due.is("letter(0, far)", x.letter(0, far), false);
        }
        x.open(0, 4, Lanes.HAND, 0, 0);
        Lanes.add(x, 0, 2, 5);
        Due.are("to itself at first", Lanes.totals(x, 0, 5), 0, 1, 2, 3, 4);
        Due.is("lane 0", x.letter(3, 141), false);
        x.shut(0);
        // 2 0 3 1 by four: state 0 to 1, 1 to 3, 2 to 0, 3 to 2
        Due.is("letter(3, 141)", x.letter(3, 141), true);
        x.open(2, 4, Lanes.HAND, 0, 0);
        Due.is("an open lane", x.letter(3, 0), false);
        Lanes.add(x, 2, 3);
        Due.are("3", Lanes.totals(x, 2, 5), 1, 3, 0, 2, 4);
        Lanes.add(x, 2, 8);
        Due.are("3 then 0, all to 3", Lanes.totals(x, 2, 5), 3, 3, 3, 3, 1);
        Lanes.add(x, 2, -5);
        Due.are("then -5, the letter 3", Lanes.totals(x, 2, 5), 2, 2, 2, 2, 1);
        Lanes.add(x, 2, 4);
        Due.are("then 4, to itself", Lanes.totals(x, 2, 5), 2, 2, 2, 2, 1);
        x.keep(2, 0);
        x.shut(2);
        Due.is("a box", x.letter(3, 0), false);
        x.open(2, 9, Lanes.HAND, 0, 0);
        Due.is("table with letters in a box", x.letter(0, 0), false);
        x.keep(2, 0);
        Due.is("no more", x.letter(3, 0), true);
    }

    private static void triple() {
        Due.promise(4);
        SlideFold x = new SlideFold();
        Due.are("at first", triples(x), -1, -1, -1, 64);
        Due.are("minus", triples(minus()), 0, 0, 1, 32);
        Due.are("plus", triples(plus()), -1, -1, -1, 64);
        Due.are("right", triples(right()), -1, -1, -1, 64);
        // only 3 3 is 1, all others 0, and 1 3 is 2: (3 3) 3 is 2, 3 (3 3) is 0
        x.table(15, 1);
        x.table(7, 2);
        Due.are("one triple", triples(x), 3, 3, 3, 63);
        // 1 1 is 2, 2 1 is 3: (1 1) 1 is 3, 1 (1 1) is 0
        x = new SlideFold();
        x.table(5, 2);
        x.table(9, 3);
        Due.are("another", triples(x), 1, 1, 1, 63);
        // 2 3 is 1, 1 0 is 3: 1 (y z) is 3 where y z is 0, (1 y) z is 0; 2 (1 0) is 1, (2 3) 0 is 3
        x = new SlideFold();
        x.table(11, 1);
        x.table(4, 3);
        Due.are("a third", triples(x), 1, 0, 0, 48);
        // each the first one, but 3 3 is 2: (3 y) 3 is 2, 3 (y 3) is 3, the other way for y 3
        x = left();
        x.table(15, 2);
        Due.are("a late one", triples(x), 3, 0, 3, 60);
        Due.is("triple(4)", x.triple(4), Lanes.NONE);
        for (int far : Lanes.FAR) {
            Due.is("triple(far)", x.triple(far), Lanes.NONE);
        }
    }

    private static long[] triples(SlideFold x) {
        return new long[] {x.triple(0), x.triple(1), x.triple(2), x.triple(3)};
    }

    private static void element() {
        Due.promise(5);
        Due.are("at first", elements(new SlideFold()), -1, 0, 1, 16);
        Due.are("plus", elements(plus()), 0, -1, 1, 16);
        Due.are("times", elements(times()), 1, 0, 2, 16);
        Due.are("left: on one side alone", elements(left()), -1, -1, 4, 4);
        Due.are("right: on the other side alone", elements(right()), -1, -1, 4, 4);
        Due.are("greater", elements(greater()), 0, 3, 4, 16);
        Due.are("minus", elements(minus()), -1, -1, 1, 8);
        SlideFold x = new SlideFold();
        Due.is("element(4)", x.element(4), Lanes.NONE);
        for (int far : Lanes.FAR) {
            Due.is("element(far)", x.element(far), Lanes.NONE);
        }
    }

    private static long[] elements(SlideFold x) {
        return new long[] {x.element(0), x.element(1), x.element(2), x.element(3)};
    }
}
