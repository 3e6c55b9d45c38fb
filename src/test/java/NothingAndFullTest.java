/** Each call where nothing is there (no HOUSES, one, empty rows), and where all is full (8 HOUSES, 9999, 100, 8 GIFTS). */
public final class NothingAndFullTest {
    private static final Checks CHECKS = new Checks();
    private static final int LOW = Trial.LOW;
    private static final String RICH = "h009999;h009999;h009999;h009999;h009999;h009999;h009999;h009999;";

    public static void main(String[] args) {
        noHouses();
        noHousesRound();
        oneHouse();
        oneHouseWithNothing();
        twoHousesRound();
        emptyRows();
        eightHouses();
        eightRichHouses();
        pursesOf9999();
        rowsOf100();
        eightGifts();
        eightShelves();
        CHECKS.end();
    }

    private static Trial nothing() {
        return new Trial(CHECKS);
    }

    private static Trial street(String text) {
        return new Trial(CHECKS, text);
    }

    private static void noHouses() {
        CHECKS.promise(1, "`TwiceAsRich()`: No HOUSES.");
        nothingThere(nothing());
        CHECKS.sentence("u: the last HOUSE is no more.");
        nothingThere(street("h005;h305;u;u;"));
    }

    private static void noHousesRound() {
        CHECKS.sentence("if it is 1 and there are 3 HOUSES at least, the last is beside the first, too.");
        Trial t = nothing().due("round(1)", 0).due("count(1)", 1).due("lawful()", 1).due("free()", 0).due("partings(0)", 1);
        t.due("hands()", 0).due("any()", 0).due("change(0)", -4).refused("wedding(0)", -1).refused("seeded(1, 1)", -3);
    }

    private static void nothingThere(Trial t) {
        t.due("count(0)", 0).due("count(1)", 0).due("count(2)", 0).due("count(3)", 0);
        for (int what = 0; what < 6; what++) {
            t.refused("house(0, " + what + ")", -1).refused("house(-1, " + what + ")", -1);
        }
        t.refused("give(0, 1, 1)", -1).refused("give(0, 0, 1)", -1).due("weeks(1)", 0).due("weeks(99)", 0);
        t.due("lawful()", 1).due("breaches(-1)", 0).refused("breaches(0)", -1).refused("held(0)", -1).due("free()", 0);
        t.due("partings(0)", 1).due("partings(1)", 0).due("partings(20)", 0);
        t.due("uneven(0)", 0).due("uneven(1)", -4).due("uneven(20)", -4).refused("richest(0, 0)", -1).refused("richest(20, 0)", -1);
        t.due("hands()", 0).due("any()", 0).due("change(0)", -4).due("change(1)", -4);
        t.refused("wedding(0)", -1).refused("wedding(-1)", -1).refused("worth(0, 0)", -1000000001).refused("worth(-1, 0)", -1000000001);
        t.refused("fitting(0, 0)", -1).due("tax(0)", 0).due("tax(9999)", 0).refused("seeded(1, 1)", -3).refused("seeded(40, 1)", -3);
        t.refusedText("", -1000).refusedText("u;", -2000).refusedText("m01;", -2000).refusedText("g011;", -2000);
        t.due("image()", 0).due("restore()", 0).due("count(0)", 0);
    }

    private static void oneHouse() {
        CHECKS.sentence("(9999: there are none)");
        for (int round = 0; round < 2; round++) {
            Trial t = street("h0020;r" + round + ";").due("house(0, 4)", 9999).due("lawful()", 1).due("breaches(-1)", 0).due("breaches(0)", 0);
            t.due("held(0)", 0).due("free()", 1).due("count(3)", 1).due("partings(0)", 0).due("partings(1)", 1).due("partings(20)", 1);
            t.due("uneven(0)", -4).due("uneven(1)", 0).due("uneven(20)", 0).due("richest(0, 0)", -4).due("richest(1, 0)", 1).due("richest(20, 0)", 20);
            t.due("hands()", 0).due("any()", 0).due("change(0)", -4).due("change(1)", -4).refused("wedding(0)", -1);
            t.due("worth(0, 0)", -9999).due("worth(0, 9999)", 0).due("fitting(0, 0)", 100).due("fitting(0, 1)", 0).due("fitting(0, 2)", 99);
            t.due("tax(19)", 19).due("tax(20)", 20).due("tax(21)", 20).due("seeded(1, 5)", 1).due("seeded(40, -5)", 40);
            t.refused("give(0, 0, 1)", -1).refused("give(0, 1, 1)", -1).due("house(0, 2)", 20);
            t.refusedText("m00;", -2000).refusedText("m01;", -2000).refusedText("g001;", -2000).refusedText("g011;", -2000);
        }
        street("h0021;").refused("hands()", -3).refused("any()", -3);
    }

    private static void oneHouseWithNothing() {
        CHECKS.sentence("none has less than one");
        street("h000;").due("lawful()", 1).due("hands()", -4).due("any()", -4).due("tax(9999)", 0).due("seeded(40, 1)", 40).due("free()", 1);
    }

    private static void twoHousesRound() {
        CHECKS.sentence("if it is 1 and there are 3 HOUSES at least");
        Trial t = street("h001;h003;r1;").due("breaches(-1)", 1).due("count(3)", 1).due("house(0, 4)", 6).due("house(1, 4)", 2);
        t.due("held(0)", 0).due("held(1)", 1).due("free()", 1).due("partings(6)", 3).due("hands()", 1).due("any()", 1).due("change(0)", -4);
        t.due("wedding(0)", 0).refused("wedding(1)", -1).due("fitting(1, 0)", 2).due("fitting(1, 1)", 1).due("fitting(1, 2)", 2);
        t.add("h002;").due("breaches(-1)", 1).due("breaches(2)", 0).add("g211;h001;u;").due("breaches(1)", 2).due("breaches(-1)", 2);
    }

    private static void emptyRows() {
        CHECKS.sentence("0 .. 100 elements");
        for (int sort = 0; sort < 3; sort++) {
            Trial t = street("h005;h005;").make("row(0, " + sort + ", 0)").refused("element(0, 0)", Trial.ILLEGAL_STATE);
            t.refused("put(0, 0, 1)", -13).due("judge(0)", 0).due("copy(0, 0, 0, 0, 0)", 0).refused("copy(0, 0, 0, 0, 1)", -13);
            t.refused("street(0)", sort == 0 ? -1000 : -12);
            t.due("given(0, 0)", sort == 1 ? 0 : -12).due("given(0, 1)", sort == 1 ? 0 : -12);
            t.refused("comes(0, 1)", -12).refused("fee(0)", -12).refused("toss(0)", -12);
        }
    }

    private static void eightHouses() {
        CHECKS.sentence("(8 at most)");
        Trial t = street("h001;h002;h003;h004;h005;h006;h007;h008;").make("keep(0, 1, 0, 0)");
        t.due("count(0)", 8).due("count(2)", 36).due("count(3)", 8).refused("comes(0, 1)", -2).refusedText("h001;", -2000);
        t.due("house(7, 2)", 8).refused("house(8, 2)", -1).due("breaches(7)", 0).refused("breaches(8)", -1).due("held(7)", 0).due("held(1)", 1);
        t.due("free()", 253).due("give(7, 0, 1)", 7).due("give(0, 7, 1)", 1).refused("give(8, 0, 1)", -1).refused("give(0, 8, 1)", -1);
        t.refused("partings(20)", -3).refused("uneven(20)", -3).refused("richest(20, 7)", -3).refused("hands()", -3).refused("any()", -3);
        t.due("change(0)", -4).due("wedding(6)", 1).refused("wedding(7)", -1).due("worth(7, 1)", -12).due("worth(7, 7)", 0);
        t.due("fitting(7, 0)", 11).due("fitting(7, 1)", 4).due("fitting(7, 2)", 14).refused("fitting(8, 0)", -1);
        t.putRow(1, 0, 1, 2, 3, 4, 5, 6, 7, 8).due("judge(1)", -4).make("put(1, 7, 9)").due("judge(1)", 7);
        t.due("round(1)", 0).due("breaches(-1)", 1).due("breaches(7)", 1).due("count(3)", 7).due("held(7)", 1).due("house(7, 4)", 2);
        t.due("free()", 125).due("change(0)", -4).due("change(1)", -4).due("image()", 36).add("u;u;u;").due("restore()", 36).due("count(0)", 8);
    }

    private static void eightRichHouses() {
        CHECKS.sentence("Each has a PURSE (0 .. 9999 coins)");
        for (int round = 0; round < 2; round++) {
            Trial t = street(RICH + "r" + round + ";").due("count(2)", 79992).due("count(3)", 8).due("lawful()", 1).due("free()", 0);
            for (int i = 0; i < 8; i++) {
                t.due("held(" + i + ")", 0).due("house(" + i + ", 4)", 9999).due("house(" + i + ", 3)", 9999);
                t.due("worth(" + i + ", 0)", -9999).due("worth(" + i + ", 9999)", 0);
                t.due("fitting(" + i + ", 0)", 0).due("fitting(" + i + ", 1)", -4).due("fitting(" + i + ", 2)", -4);
            }
            t.due("weeks(1)", 79992).due("weeks(99)", 79992).due("wedding(0)", 0).due("wedding(6)", 0).due("tax(9999)", 79992).due("tax(1)", 8);
            t.due("seeded(40, 5)", 40).due("seeded(40, " + LOW + ")", 40).due("change(0)", -4).due("image()", 79992).due("restore()", 79992);
            t.refused("give(0, 7, 1)", -2).refused("give(7, 0, 9999)", -2).refused("give(7, 0, 10000)", -3).refusedText("g071;", -2000);
        }
    }

    private static void pursesOf9999() {
        CHECKS.sentence("no more than 9999.");
        int[] shown = {9999, 9999, 8999, -4, 4999, 9008, 9999, 9999};
        for (int kind = 0; kind < 8; kind++) {
            Trial t = street("h" + kind + "99999;h009999;").due("house(0, 3)", shown[kind]).due("house(0, 4)", 9999).due("weeks(99)", 19998);
            t.due("house(1, 4)", shown[kind] == -4 ? 9999 : Math.min(9999, 2 * shown[kind])).due("free()", 0);
            t.due("tax(9999)", 19998).due("lawful()", kind == 4 ? 0 : 1).refused("give(0, 1, 1)", -2).refused("give(1, 0, 1)", -2);
        }
    }

    private static void rowsOf100() {
        CHECKS.sentence("0 .. 100 elements");
        for (int sort = 0; sort < 3; sort++) {
            Trial t = street("h005;h005;").make("row(0, " + sort + ", 100)").make("row(1, " + sort + ", 100)");
            t.due("put(0, 99, 5)", 0).refused("put(0, 100, 5)", -13).due("put(0, 0, 5)", 0).due("put(0, 1, 5)", 0).due("judge(0)", 2);
            t.due("copy(0, 0, 1, 0, 100)", 100).due("element(1, 99)", 5).due("element(1, 0)", 5).due("copy(0, 0, 1, 1, 99)", 99);
            t.due("copy(0, 0, 1, 0, 101)", -13).due("copy(0, 1, 1, 0, 100)", -13).due("copy(0, 0, 1, 1, 100)", -13);
            t.due("copy(0, 100, 1, 100, 0)", 0).due("copy(0, 101, 1, 0, 0)", -13).due("copy(0, 99, 1, 99, 1)", 1);
            t.due("given(0, 0)", sort == 1 ? -13 : -12).due("street(0)", sort == 0 ? -1000 : -12);
        }
        street("h005;h005;").read("r1;".repeat(32) + "u;u;", 34).due("count(0)", 0).due("count(1)", 1);
        Trial t = nothing().read("h001;h002;h003;h004;h005;h006;h007;h008;" + "m07;".repeat(15), 23);
        t.due("house(0, 2)", 8).due("house(7, 2)", 1).due("house(6, 2)", 7).due("count(0)", 8);
    }

    private static void eightGifts() {
        CHECKS.sentence("8 GIFTS at most");
        int[] eight = new int[24];
        for (int i = 0; i < 8; i++) {
            eight[3 * i] = i;
            eight[3 * i + 1] = (i + 1) % 8;
            eight[3 * i + 2] = 9;
        }
        // Each gives 9 to the next one; without the first gift no other could be given.
        Trial t = street("h009;h000;h000;h000;h000;h000;h000;h000;").putRow(0, 1, eight);
        t.due("given(0, 1)", 8).due("given(0, 0)", 1).due("house(0, 2)", 9);
        t.make("put(0, 23, 10)").due("given(0, 1)", 7).due("given(0, 0)", 1).make("put(0, 2, 10)").due("given(0, 1)", 0);
        t.make("put(0, 23, 10000)").refused("given(0, 1)", -13).make("put(0, 23, 0)").refused("given(0, 1)", -13);
        t.putRow(0, 1, new int[27]).refused("given(0, 1)", -13).make("row(0, 1, 99)").refused("given(0, 1)", -13);
    }

    private static void eightShelves() {
        CHECKS.sentence("SHELVES 0 .. 7");
        Trial t = nothing();
        for (int d = 0; d < 8; d++) {
            t.due("keep(" + d + ", 1, " + d + ", " + (9 - d) + ")", 0);
        }
        int[] fees = {5, 45, 3, 8, 31, 7, 17, 16};
        int[] tossed = {9, 8, 7, -15, 5, 104, 217, 2};
        for (int d = 0; d < 8; d++) {
            t.due("fee(" + d + ")", fees[d]).due("toss(" + d + ")", tossed[d]).due("comes(" + d + ", " + d + ")", d).due("house(" + d + ", 1)", 9 - d);
        }
        for (int d = 0; d < 8; d++) {
            t.due("row(" + d + ", " + d % 3 + ", " + (d + 1) + ")", 0).due("put(" + d + ", " + d + ", " + d + ")", 0);
        }
        for (int d = 0; d < 8; d++) {
            t.due("element(" + d + ", " + d + ")", d).due("element(" + d + ", " + (d + 1) + ")", Trial.ILLEGAL_STATE);
        }
    }
}
