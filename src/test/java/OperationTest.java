/** Promises 15 to 17, 25 to 29 and 35: what all, parts, and two lanes come to, by each operation. */
public final class OperationTest {
    private static final int[] NUMBERS = {4, 2, 2, 4, 5, 4, 7, 5, 3, 1};

    public static void main(String[] args) {
        greatest();
        share();
        line();
        run();
        letters();
        nest();
        like();
        steps();
        spread();
        table();
        wrongTotals();
        part();
        during();
        turned();
        commutes();
        joined();
        woven();
        same();
        law();
        Due.end("OperationTest");
    }

    private static void are(String call, int operation, int[] values, long... want) {
        Due.are(call, Lanes.totals(Lanes.of(operation, values), 0, NUMBERS[operation]), want);
    }

    private static int[] row(int... values) {
        return values;
    }

    private static void greatest() {
        Due.promise(15);
        are("one", 0, row(-7), -7, 1, 0, 1);
        are("the first that has it", 0, row(3, 5, 5, 4, 5), 5, 3, 1, 5);
        are("rising", 0, row(-3, -2, -1), -1, 1, 2, 3);
        are("falling", 0, row(0, -2, -1), 0, 1, 0, 3);
    }

    private static void share() {
        are("zero", 1, row(0), 0, 0);
        are("all zero", 1, row(0, 0, 0), 0, 0);
        are("below 0", 1, row(-6), 6, 1);
        are("some", 1, row(12, 0, -18, 30), 6, 3);
        are("zero first", 1, row(0, 0, 1000), 1000, 1);
        are("nothing in common", 1, row(6, 10, 15), 1, 3);
        are("next to each other", 1, row(610, 987), 1, 2);
    }

    private static void line() {
        are("one", 2, row(3), 3, 22);
        are("zero", 2, row(0), 0, 1);
        // -1: a 996, b -6 mod 997
        are("below 0", 2, row(-1), 996, 991);
        // -1000: a 994, b (-6999) mod 997: -6999 + 8 * 997 = 977
        are("far below 0", 2, row(-1000), 994, 977);
        are("1000 is 3, b 7001 mod 997 is 22", 2, row(1000), 3, 22);
        // 2 (x + 8) + 15
        are("the first one's first", 2, row(1, 2), 2, 31);
        // (2x + 15) + 8
        are("the other order", 2, row(2, 1), 2, 23);
        // 500 * 2 = 1000 mod 997 = 3; b: 500 -> 3501 mod 997 = 510; 2 * 510 + 15 = 1035 - 997 = 38
        are("beyond the modulus", 2, row(500, 2), 3, 38);
    }

    private static void run() {
        are("one below 0", 3, row(-5), -5, -5, -5, -5);
        are("all below 0", 3, row(-5, -2, -4), -2, -11, -5, -4);
        are("in the middle", 3, row(-1, 4, -2, 5, -9), 7, -3, 6, -2);
        are("all", 3, row(1, 2, 3), 6, 6, 6, 6);
        are("first ones", 3, row(8, -9, 7), 8, 6, 8, 7);
        are("last ones", 3, row(2, -9, 3, 3), 6, -1, 2, 6);
    }

    private static void letters() {
        Due.promise(15);
        SlideFold x = new SlideFold();
        // letter 1: 0>1 1>2 2>3 3>0 (0321 by four); letter 2: 0>0 1>0 2>2 3>2 (2200 by four)
        x.letter(1, 57);
        x.letter(2, 160);
        x.open(0, 4, Lanes.HAND, 0, 0);
        Lanes.add(x, 0, 1);
        Due.are("1", Lanes.totals(x, 0, 5), 1, 2, 3, 0, 4);
        Lanes.add(x, 0, 2);
        Due.are("1 2", Lanes.totals(x, 0, 5), 0, 2, 2, 0, 2);
        Lanes.add(x, 0, 1);
        Due.are("1 2 1", Lanes.totals(x, 0, 5), 1, 3, 3, 1, 2);
        Lanes.add(x, 0, -6);
        Due.are("-6 is 2", Lanes.totals(x, 0, 5), 0, 2, 2, 0, 2);
        Lanes.add(x, 0, 993);
        Due.are("993 is 1", Lanes.totals(x, 0, 5), 1, 3, 3, 1, 2);
        Lanes.add(x, 0, 8, -8, 3, 7);
        Due.are("to itself", Lanes.totals(x, 0, 5), 1, 3, 3, 1, 2);
    }

    private static void nest() {
        Due.promise(15);
        are("zero opens", 5, row(0), 0, 1, 0, 1);
        are("shuts", 5, row(-1), 1, 0, 0, 0);
        are("shuts and opens", 5, row(-1, 1), 1, 1, 0, 0);
        are("a couple", 5, row(1, -1), 0, 0, 1, 1);
        are("within", 5, row(1, 2, -3, 4, -5, -6), 0, 0, 3, 2);
        are("unmatched ones count against the excess", 5, row(-1, -1, 5, 5, 5, -1), 2, 2, 1, 1);
    }

    private static void like() {
        are("one", 6, row(4), 1, 4, 1, 1, 1, 4, 4);
        are("all", 6, row(4, 4, 4), 3, 4, 1, 3, 3, 4, 4);
        are("of like ones the first", 6, row(1, 2, 2, 3, 3, 1), 2, 2, 4, 1, 1, 1, 1);
        are("the last one is longest", 6, row(0, 0, -5, -5, -5), 3, -5, 2, 2, 3, 0, -5);
        are("not neighbours", 6, row(1, 2, 1, 2), 1, 1, 4, 1, 1, 1, 2);
    }

    private static void steps() {
        are("one", 7, row(-4), 0, 0, -4, -4, 1);
        are("like ones", 7, row(2, 2, 2), 0, 0, 2, 2, 3);
        are("falling", 7, row(3, 2, 1), 2, 0, 3, 1, 1);
        are("rising", 7, row(1, 2, 3), 0, 2, 1, 3, 3);
        are("some", 7, row(1, 0, 0, 5, 4, 6, 6, 9, 2), 3, 3, 1, 2, 4);
    }

    private static void spread() {
        long nothing = Lanes.NOTHING;
        are("zero", 8, row(0), nothing, nothing, 1);
        are("above", 8, row(1000), 1000, nothing, 0);
        are("1", 8, row(1), 1, nothing, 0);
        are("-1", 8, row(-1), nothing, -1, 0);
        are("below", 8, row(-1000), nothing, -1000, 0);
        are("some", 8, row(5, -3, 0, 2, -9, 7, 0, -1, 2), 2, -1, 2);
    }

    private static void table() {
        Due.promise(15);
        SlideFold x = new SlideFold();
        // the rest of the sum by four
        int[] plus = {0, 1, 2, 3, 1, 2, 3, 0, 2, 3, 0, 1, 3, 0, 1, 2};
        for (int i = 0; i < 16; i++) {
            x.table(i, plus[i]);
        }
        x.open(0, 9, Lanes.HAND, 0, 0);
        Lanes.add(x, 0, -1);
        Due.is("-1 is 3", x.total(0, 0), 3);
        Lanes.add(x, 0, 3);
        Due.is("3 3", x.total(0, 0), 2);
        Lanes.add(x, 0, 4);
        Due.is("3 3 0", x.total(0, 0), 2);
        // the one ahead: cells 4 * x + y
        x = new SlideFold();
        for (int i = 0; i < 16; i++) {
            x.table(i, i / 4);
        }
        x.open(0, 9, Lanes.HAND, 0, 0);
        Lanes.add(x, 0, 2, 1, 3);
        Due.is("the first", x.total(0, 0), 2);
        Due.is("turned", x.turned(0, 0), 3);
    }

    private static void wrongTotals() {
        Due.promise(15);
        for (int operation = 0; operation < 10; operation++) {
            SlideFold x = Lanes.of(operation);
            for (int what = 0; what < NUMBERS[operation]; what++) {
                Due.is("of none", x.total(0, what), Lanes.NOTHING);
            }
            Lanes.add(x, 0, 5);
            Due.is("too far", x.total(0, NUMBERS[operation]), Lanes.NOTHING);
            for (int far : Lanes.FAR) {
                Due.is("what far", x.total(0, far), Lanes.NOTHING);
                Due.is("lane far", x.total(far, 0), Lanes.NOTHING);
            }
            Due.is("lane 1", x.total(1, 0), Lanes.NOTHING);
        }
    }

    private static void part() {
        Due.promise(16);
        SlideFold x = Lanes.of(0, 4, 9, 9, 2, 7);
        Due.is("all", x.part(0, 0, 4, 0), 9);
        Due.is("the place is that in the part", x.part(0, 2, 4, 2), 0);
        Due.is("how many", x.part(0, 1, 3, 3), 3);
        Due.is("one", x.part(0, 3, 3, 0), 2);
        Due.is("the last", x.part(0, 4, 4, 0), 7);
        Due.is("older", x.part(0, 3, 2, 0), Lanes.NOTHING);
        Due.is("too far", x.part(0, 0, 5, 0), Lanes.NOTHING);
        Due.is("below", x.part(0, -1, 2, 0), Lanes.NOTHING);
        Due.is("number", x.part(0, 0, 2, 4), Lanes.NOTHING);
        Due.is("lane", x.part(1, 0, 0, 0), Lanes.NOTHING);
        for (int far : Lanes.FAR) {
            Due.is("from far", x.part(0, far, 4, 0), Lanes.NOTHING);
            Due.is("to far", x.part(0, 0, far, 0), Lanes.NOTHING);
            Due.is("both far", x.part(0, far, far, 0), Lanes.NOTHING);
            Due.is("what far", x.part(0, 0, 4, far), Lanes.NOTHING);
            Due.is("lane far", x.part(far, 0, 0, 0), Lanes.NOTHING);
        }
    }

    private static void during() {
        Due.promise(17);
        SlideFold x = Lanes.timed(3, 0, 0, 1, 5, 2, 5, 3, 8, 4, 100000, 5);
        int least = Integer.MIN_VALUE;
        int most = Integer.MAX_VALUE;
        Due.is("both times too", x.during(0, 5, 8, 1), 9);
        Due.is("one time", x.during(0, 5, 5, 1), 5);
        Due.is("all", x.during(0, 0, 100000, 1), 15);
        Due.is("all and more", x.during(0, least, most, 1), 15);
        Due.is("from the least", x.during(0, least, 0, 1), 1);
        Due.is("to the most", x.during(0, 100000, most, 1), 5);
        Due.is("between", x.during(0, 6, 7, 1), Lanes.NOTHING);
        Due.is("the other way", x.during(0, 8, 5, 1), Lanes.NOTHING);
        Due.is("least and least", x.during(0, least, least, 1), Lanes.NOTHING);
        Due.is("the other way, far", x.during(0, most, least, 1), Lanes.NOTHING);
        Due.is("number", x.during(0, 5, 8, 4), Lanes.NOTHING);
        Due.is("lane", x.during(1, 5, 8, 1), Lanes.NOTHING);
        for (int far : Lanes.FAR) {
            Due.is("what far", x.during(0, 5, 8, far), Lanes.NOTHING);
            Due.is("lane far", x.during(far, 5, 8, 1), Lanes.NOTHING);
        }
    }

    private static void turned() {
        Due.promise(25);
        SlideFold x = Lanes.of(6, 1, 1, 2, 3, 3);
        Due.is("the longest", x.turned(0, 1), 3);
        Due.is("the first row", x.turned(0, 3), 2);
        Due.is("the first", x.turned(0, 5), 3);
        Due.is("the last", x.turned(0, 6), 1);
        Due.is("line", Lanes.of(2, 1, 2).turned(0, 1), 23);
        Due.is("place", Lanes.of(0, 1, 9, 2, 3).turned(0, 2), 2);
        Due.is("of none", Lanes.of(0).turned(0, 0), Lanes.NOTHING);
        Due.is("number", x.turned(0, 7), Lanes.NOTHING);
        Due.is("lane", x.turned(1, 0), Lanes.NOTHING);
        for (int far : Lanes.FAR) {
            Due.is("what far", x.turned(0, far), Lanes.NOTHING);
            Due.is("lane far", x.turned(far, 0), Lanes.NOTHING);
        }
    }

    private static void commutes() {
        Due.promise(26);
        SlideFold x = Lanes.of(0, 5, 3, 4, 9, 9, 2);
        Due.is("the place of the first is the same", x.commutes(0, 0), 1);
        Due.is("the place is another", x.commutes(0, 2), 0);
        Due.is("like ones", x.commutes(0, 3), 1);
        Due.is("the second greatest goes", x.commutes(0, 4), 1);
        Due.is("no next one", x.commutes(0, 5), -1);
        Due.is("lane", x.commutes(1, 0), -1);
        Due.is("the last number alone is another", Lanes.of(6, 1, 2).commutes(0, 0), 0);
        Due.is("all of the lane, not the two alone", Lanes.of(7, 2, 1, 2, 3).commutes(0, 1), 0);
        Due.is("of two that differ alone, not all", Lanes.of(4, 1, 2).commutes(0, 0), 1);
        Due.is("of one", Lanes.of(0, 1).commutes(0, 0), -1);
        Due.is("of none", Lanes.of(0).commutes(0, 0), -1);
        for (int far : Lanes.FAR) {
            Due.is("event far", x.commutes(0, far), -1);
            Due.is("lane far", x.commutes(far, 0), -1);
        }
    }

    private static void joined() {
        Due.promise(27);
        SlideFold x = Lanes.of(6, 1, 1, 2);
        x.open(1, 6, Lanes.HAND, 0, 0);
        Due.is("the other is empty", x.joined(0, 1, 2), 2);
        Due.is("this one is empty", x.joined(1, 0, 5), 1);
        Due.is("none in both", x.joined(1, 1, 0), Lanes.NOTHING);
        Lanes.add(x, 1, 2, 2, 1);
        Due.is("longest", x.joined(0, 1, 0), 3);
        Due.is("its value", x.joined(0, 1, 1), 2);
        Due.is("other order: longest", x.joined(1, 0, 0), 3);
        Due.is("other order: its value", x.joined(1, 0, 1), 1);
        Due.is("the same lane", x.joined(0, 0, 2), 4);
        x.open(2, 7, Lanes.HAND, 0, 0);
        Lanes.add(x, 2, 1);
        Due.is("another operation", x.joined(0, 2, 0), Lanes.NOTHING);
        Due.is("number", x.joined(0, 1, 7), Lanes.NOTHING);
        Due.is("lane 3", x.joined(0, 3, 0), Lanes.NOTHING);
        Due.is("lane 3", x.joined(3, 0, 0), Lanes.NOTHING);
        for (int far : Lanes.FAR) {
            Due.is("what far", x.joined(0, 1, far), Lanes.NOTHING);
            Due.is("lane far", x.joined(far, 0, 0), Lanes.NOTHING);
            Due.is("other far", x.joined(0, far, 0), Lanes.NOTHING);
        }
    }

    private static void woven() {
        Due.promise(28);
        SlideFold x = Lanes.timed(2, 0, 1, 1, 3, 2, 3, 5);
        x.open(1, 2, Lanes.HAND, 0, 0);
        Due.is("the other is empty", x.woven(0, 1, 1), x.total(0, 1));
        Due.is("this one is empty", x.woven(1, 0, 1), x.total(0, 1));
        Due.is("none in both", x.woven(1, 1, 0), Lanes.NOTHING);
        Lanes.addTimed(x, 1, 0, 7, 3, 11, 4, 13);
        Due.is("first, then second", x.woven(0, 1, 1), Lanes.of(2, 7, 1, 2, 5, 11, 13).total(0, 1));
        Due.is("second, then first", x.woven(1, 0, 1), Lanes.of(2, 7, 1, 11, 2, 5, 13).total(0, 1));
        Due.is("the same lane", x.woven(0, 0, 1), Lanes.of(2, 1, 1, 2, 5, 2, 5).total(0, 1));
        x.open(2, 3, Lanes.HAND, 0, 0);
        Lanes.add(x, 2, 1);
        Due.is("another operation", x.woven(0, 2, 0), Lanes.NOTHING);
        Due.is("number", x.woven(0, 1, 2), Lanes.NOTHING);
        Due.is("lane 3", x.woven(0, 3, 0), Lanes.NOTHING);
        Due.is("lane 3", x.woven(3, 0, 0), Lanes.NOTHING);
        for (int far : Lanes.FAR) {
            Due.is("what far", x.woven(0, 1, far), Lanes.NOTHING);
            Due.is("lane far", x.woven(far, 0, 0), Lanes.NOTHING);
            Due.is("other far", x.woven(0, far, 0), Lanes.NOTHING);
        }
        wovenFull();
    }

    private static void wovenFull() {
        SlideFold x = Lanes.of(3);
        x.open(1, 3, Lanes.HAND, 0, 0);
        for (int i = 0; i < 3; i++) {
            x.burst(0, 40, 1000, 0);
            x.burst(1, 40, 1000, 0);
        }
        Due.is("240", x.woven(0, 1, 0), 240000);
        Due.promise(27);
        Due.is("240", x.joined(1, 0, 3), 240000);
    }

    private static void same() {
        Due.promise(29);
        SlideFold x = Lanes.of(3, 1, 2, -1);
        x.open(1, 3, Lanes.HAND, 0, 0);
        Due.is("one is empty", x.same(0, 1), 0);
        Due.is("the other is empty", x.same(1, 0), 0);
        Due.is("itself", x.same(0, 0), 1);
        Due.is("itself, empty", x.same(1, 1), 1);
        x.open(2, 3, Lanes.HAND, 0, 0);
        Due.is("both are empty", x.same(1, 2), 1);
        Lanes.addTimed(x, 1, 50, 3, 60, -1);
        Due.is("other values, times, same numbers", x.same(0, 1), 1);
        Lanes.addTimed(x, 2, 50, 3, 60, -4, 61, 3);
        Due.is("the last number alone is another", x.same(1, 2), 0);
        x.open(3, 0, Lanes.HAND, 0, 0);
        x.open(2, 0, Lanes.HAND, 0, 0);
        Lanes.add(x, 3, 5);
        Lanes.add(x, 2, 6);
        Due.is("the first number alone is another", x.same(2, 3), 0);
        x.open(3, 7, Lanes.HAND, 0, 0);
        Due.is("another operation", x.same(0, 3), -1);
        x.shut(3);
        Due.is("lane 3", x.same(0, 3), -1);
        Due.is("lane 3", x.same(3, 0), -1);
        for (int far : Lanes.FAR) {
            Due.is("lane far", x.same(far, 0), -1);
            Due.is("other far", x.same(0, far), -1);
        }
        emptyIsNoIdentity();
        sameByEach();
    }

    /** All numbers of each operation, the last one too. */
    private static void sameByEach() {
        for (int operation = 0; operation < 10; operation++) {
            SlideFold x = Lanes.of(operation, 3, -2, 0, 0, 5);
            x.open(1, operation, Lanes.HAND, 0, 0);
            Lanes.add(x, 1, 3, -2, 0, 0, 5);
            Due.promise(29);
            Due.is("the same values by " + operation, x.same(0, 1), 1);
            Due.promise(26);
            Due.is("like ones by " + operation, x.commutes(0, 2), 1);
        }
    }

    /** One zero comes to what a fold may well begin with: an empty lane is not the same. */
    private static void emptyIsNoIdentity() {
        SlideFold x = Lanes.of(4);
        x.open(1, 4, Lanes.HAND, 0, 0);
        Lanes.add(x, 1, 0);
        Due.is("to itself, and none", x.same(0, 1), 0);
        x.open(0, 1, Lanes.HAND, 0, 0);
        x.open(1, 1, Lanes.HAND, 0, 0);
        Lanes.add(x, 1, 0);
        Due.is("share of zero, and none", x.same(0, 1), 0);
        Due.is("share of zero, and none", x.same(1, 0), 0);
    }

    private static void law() {
        Due.promise(35);
        SlideFold x = Lanes.of(7, 3, 1, 4, 1, 5, 9, 2, 6);
        for (int how = 0; how < 3; how++) {
            Due.is("falls", x.law(0, how, 0), 3);
            Due.is("climbs", x.law(0, how, 1), 4);
            Due.is("most", x.law(0, how, 4), 3);
            Due.is("number", x.law(0, how, 5), Lanes.NOTHING);
            Due.is("of none", Lanes.of(7).law(0, how, 0), Lanes.NOTHING);
            Due.is("of one", Lanes.of(7, 8).law(0, how, 2), 8);
            Due.is("lane", x.law(1, how, 0), Lanes.NOTHING);
        }
        Due.is("how", x.law(0, 3, 0), Lanes.NOTHING);
        for (int far : Lanes.FAR) {
            Due.is("how far", x.law(0, far, 0), Lanes.NOTHING);
            Due.is("what far", x.law(0, 0, far), Lanes.NOTHING);
            Due.is("lane far", x.law(far, 0, 0), Lanes.NOTHING);
        }
    }
}
