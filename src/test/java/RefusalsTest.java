/**
 * "Answers of several refusals are the first one as they are told at the call ... A refused call changes nothing."
 * Of each promise: the last number that is taken and the first that is refused, each refusal, the first one of
 * two that hold at once, and that nothing is changed by it: HOUSES, PURSES, ROUND, SHELVES, THE IMAGE.
 */
public final class RefusalsTest {
    private static final Checks CHECKS = new Checks();
    private static final int LOW = Trial.LOW;
    private static final int HIGH = Trial.HIGH;
    private static final int[] NO_SHELVES = {-1, 8, LOW, HIGH};

    public static void main(String[] args) {
        CHECKS.sentence("Answers of several refusals are the first one as they are told at the call");
        CHECKS.sentence("A refused call changes nothing.");
        street();
        house();
        comes();
        round();
        give();
        weeks();
        lawful();
        breaches();
        held();
        free();
        partingsUnevenRichest();
        handsAny();
        change();
        wedding();
        worth();
        fitting();
        given();
        tax();
        seeded();
        judge();
        image();
        restore();
        count();
        keep();
        row();
        put();
        element();
        copy();
        feeToss();
        CHECKS.end();
    }

    private static Trial nothing() {
        return new Trial(CHECKS);
    }

    private static Trial street(String text) {
        return new Trial(CHECKS, text);
    }

    // Shelf 0 and 7 hold nothing, 1 a beggar, 2 bytes, 3 shorts, 4 ints, 5 a wall, 6 a house of figure 0;
    // THE IMAGE is of another street.
    private static Trial withShelves(String text) {
        Trial t = street("h4304;r0;").make("image()").add("u;" + text);
        t.make("keep(1, 1, 5, 4)").putText(2, "r0;").putRow(3, 1, 0, 1, 2).putRow(4, 2, 5, 6, 70000);
        return t.make("keep(5, 1, 3, 3)").make("keep(6, 1, 0, 0)");
    }

    private static Trial three() {
        return withShelves("h005;h1906;h309999;r1;");
    }

    private static Trial seven() {
        return withShelves("h301;h301;h301;h301;h301;h301;h301;");
    }

    private static Trial eight() {
        return withShelves("h005;h006;h007;h008;h009;h009;h008;h007;r1;");
    }

    // ---- promises 2 to 7

    private static void street() {
        CHECKS.promise(2, "-1, -11, -12 (no ROW of bytes).");
        for (int d : NO_SHELVES) {
            three().refused("street(" + d + ")", -1);
        }
        three().refused("street(0)", -11).refused("street(7)", -11);
        three().refused("street(1)", -12).refused("street(3)", -12).refused("street(4)", -12).due("street(2)", 1);
        CHECKS.promise(2, "The text in SHELF d: how many STATEMENTS; the FAULT. -1, -11, -12 (no ROW of bytes).");
        three().putRow(3, 1, 'x').refused("street(3)", -12).make("row(4, 2, 0)").refused("street(4)", -12);
        three().refusedText("u;u;u;u;", -2006).refusedText("u;h001;g0", -1009).refusedText("", -1000);
        eight().refusedText("h001;", -2000).refusedText("r0;u;u;h001;h001;h001;", -2017);
    }

    private static void house() {
        CHECKS.promise(3, "Of a HOUSE: 0 KIND, 1 FIGURE, 2 PURSE, 3 SHOWS (-4 it is not looked at), 4 MOST, 5 EARNS. -1.");
        three().due("house(0, 0)", 0).due("house(2, 5)", 0).due("house(2, 3)", -4);
        for (int wrong : new int[] {-1, 3, LOW, HIGH}) {
            three().refused("house(" + wrong + ", 0)", -1).refused("house(" + wrong + ", 3)", -1).refused("house(" + wrong + ", 6)", -1);
        }
        for (int what : new int[] {-1, 6, LOW, HIGH}) {
            three().refused("house(0, " + what + ")", -1).refused("house(2, " + what + ")", -1);
        }
        eight().due("house(7, 2)", 7).refused("house(8, 2)", -1);
        nothing().refused("house(0, 0)", -1);
    }

    private static void comes() {
        CHECKS.promise(4, "-1, -11, -12 (a ROW), -2.");
        for (int d : NO_SHELVES) {
            three().refused("comes(" + d + ", 5)", -1);
            eight().refused("comes(" + d + ", 5)", -1);
        }
        for (int purse : new int[] {-1, 10000, LOW, HIGH}) {
            three().refused("comes(1, " + purse + ")", -1).refused("comes(0, " + purse + ")", -1).refused("comes(2, " + purse + ")", -1);
            eight().refused("comes(1, " + purse + ")", -1);
        }
        three().refused("comes(0, 5)", -11).refused("comes(7, 5)", -11);
        three().refused("comes(2, 5)", -12).refused("comes(3, 5)", -12).refused("comes(4, 5)", -12);
        eight().refused("comes(0, 5)", -11).refused("comes(2, 5)", -12).refused("comes(1, 5)", -2).refused("comes(5, 0)", -2);
        seven().due("comes(1, 9999)", 7).refused("comes(1, 0)", -2);
        three().due("comes(1, 0)", 3).due("comes(5, 9999)", 4);
    }

    private static void round() {
        CHECKS.promise(5, "ROUND becomes v: what it was. -1.");
        for (int v : new int[] {-1, 2, LOW, HIGH}) {
            three().refused("round(" + v + ")", -1);
            nothing().refused("round(" + v + ")", -1);
        }
        three().due("round(1)", 1).due("round(0)", 1).due("round(0)", 0).due("round(1)", 0);
    }

    private static void give() {
        CHECKS.promise(6, "-1 (one twice; coins below 1)");
        three().refused("give(0, 0, 1)", -1).refused("give(2, 2, 1)", -1).refused("give(0, 1, 0)", -1).refused("give(0, 1, -1)", -1);
        for (int house : new int[] {-1, 3, LOW, HIGH}) {
            three().refused("give(" + house + ", 0, 1)", -1).refused("give(0, " + house + ", 1)", -1);
        }
        three().refused("give(0, 1, " + LOW + ")", -1);
        CHECKS.promise(6, "-3 there are not so many");
        three().refused("give(0, 1, 6)", -3).refused("give(0, 1, " + HIGH + ")", -3).due("give(0, 1, 5)", 0);
        CHECKS.promise(6, "-2 more than 9999 there then.");
        street("h005;h009996;").refused("give(0, 1, 4)", -2).due("give(0, 1, 3)", 2).refused("give(0, 1, 1)", -2);
        CHECKS.promise(6, "-1 (one twice; coins below 1), -3 there are not so many, -2 more than 9999 there then.");
        three().refused("give(0, 0, 9999)", -1).refused("give(2, 2, 9999)", -1).refused("give(0, 3, 6)", -1).refused("give(0, 2, 0)", -1);
        three().refused("give(0, 2, 6)", -3).refused("give(0, 2, " + HIGH + ")", -3).refused("give(0, 2, 5)", -2).due("give(2, 0, 9994)", 5);
    }

    private static void weeks() {
        CHECKS.promise(7, "n weeks (1 .. 99): all have earned (9999 at most): all coins then. -1.");
        for (int n : new int[] {0, -1, 100, LOW, HIGH}) {
            three().refused("weeks(" + n + ")", -1);
            nothing().refused("weeks(" + n + ")", -1);
        }
        three().due("weeks(1)", 7 + 17 + 9999).due("weeks(99)", 205 + 1106 + 9999);
        street("h009996;").due("weeks(1)", 9998).due("weeks(1)", 9999).due("weeks(1)", 9999).due("weeks(99)", 9999);
        street("h699900;").due("weeks(4)", 9988).due("weeks(1)", 9999);
    }

    // ---- promises 8 to 16

    private static void lawful() {
        CHECKS.promise(8, "LAWFUL: 1, 0.");
        street("h003;h006;").due("lawful()", 1);
        street("h003;h007;").due("lawful()", 0);
    }

    private static void breaches() {
        CHECKS.promise(9, "BREACHES of a HOUSE; house -1: of all. -1.");
        three().due("breaches(-1)", 0).due("breaches(0)", 0).due("breaches(2)", 0);
        for (int house : new int[] {-2, 3, LOW, HIGH}) {
            three().refused("breaches(" + house + ")", -1);
        }
        eight().due("breaches(7)", 0).refused("breaches(8)", -1);
        nothing().due("breaches(-1)", 0).refused("breaches(0)", -1);
    }

    private static void held() {
        CHECKS.promise(10, "HELD (bits). -1.");
        three().due("held(0)", 0).due("held(2)", 3);
        for (int house : new int[] {-1, 3, LOW, HIGH}) {
            three().refused("held(" + house + ")", -1);
        }
        eight().due("held(7)", 0).refused("held(8)", -1);
        nothing().refused("held(0)", -1);
    }

    private static void free() {
        CHECKS.promise(11, "FREE (bits).");
        three().due("free()", 3);
        eight().due("free()", 255);
    }

    private static void partingsUnevenRichest() {
        CHECKS.promise(12, "-1 (n below 0, above 20), -3 more than 6 HOUSES.");
        CHECKS.promise(13, "The greatest difference of two PURSES in one; -4. -1, -3 likewise.");
        CHECKS.promise(14, "The most that a HOUSE has in one; -4. -1, -3 likewise.");
        for (int n : new int[] {-1, 21, LOW, HIGH}) {
            three().refused("partings(" + n + ")", -1).refused("uneven(" + n + ")", -1).refused("richest(" + n + ", 0)", -1);
            three().refused("richest(" + n + ", 3)", -1);
            seven().refused("partings(" + n + ")", -1).refused("uneven(" + n + ")", -1).refused("richest(" + n + ", 0)", -1);
        }
        three().due("partings(0)", 0).due("partings(2)", 0).due("uneven(2)", -4).due("richest(2, 2)", -4).due("uneven(0)", -4);
        three().due("partings(3)", 1).due("uneven(3)", 0).due("richest(3, 2)", 1).due("richest(20, 2)", 18);
        for (int house : new int[] {-1, 3, LOW, HIGH}) {
            three().refused("richest(5, " + house + ")", -1).refused("richest(2, " + house + ")", -1);
        }
        nothing().refused("richest(0, 0)", -1).refused("richest(0, -1)", -1);
        seven().refused("partings(20)", -3).refused("partings(0)", -3).refused("uneven(20)", -3).refused("uneven(1)", -3);
        seven().refused("richest(20, 6)", -3).refused("richest(1, 0)", -3).refused("richest(20, 7)", -1).refused("richest(20, -1)", -1);
        eight().refused("partings(20)", -3).refused("uneven(20)", -3).refused("richest(20, 7)", -3).refused("richest(20, 8)", -1);
        seven().make("street(2)").add("u;").due("partings(20)", 11628).due("uneven(20)", 14).due("richest(20, 5)", 15);
    }

    private static void handsAny() {
        CHECKS.promise(15, "HANDS; -4. -3 more than 6 HOUSES, more than 20 coins in all.");
        CHECKS.promise(16, "ANY; -4. -3 likewise.");
        three().refused("hands()", -3).refused("any()", -3);
        seven().refused("hands()", -3).refused("any()", -3).add("u;").due("hands()", 0).due("any()", 0);
        eight().refused("hands()", -3).refused("any()", -3);
        withShelves("h300;h3021;").refused("hands()", -3).refused("any()", -3).add("g101;").refused("hands()", -3);
        withShelves("h300;h3020;").due("hands()", 1).due("any()", 1);
        withShelves("h400;h4020;").due("hands()", -4).due("any()", -4);
        withShelves("h400;h4021;").refused("hands()", -3).refused("any()", -3);
        withShelves("h300;h300;h300;h300;h300;h300;h300;").refused("hands()", -3).refused("any()", -3);
    }

    // ---- promises 17 to 19

    private static void change() {
        CHECKS.promise(17, "CHANGE: the exchange (what 0; -4), BREACHES then (1; -4). -1.");
        for (int what : new int[] {-1, 2, LOW, HIGH}) {
            three().refused("change(" + what + ")", -1);
            nothing().refused("change(" + what + ")", -1);
        }
        three().due("change(0)", -4).due("change(1)", -4);
        withShelves("h001;h004;h002;").due("change(0)", 12).due("change(1)", 0);
    }

    private static void wedding() {
        CHECKS.promise(18, "WEDDING. -1 (no HOUSE behind it, too).");
        for (int house : new int[] {-1, 2, 3, LOW, HIGH}) {
            three().refused("wedding(" + house + ")", -1);
        }
        three().due("wedding(0)", 0).due("wedding(1)", 1);
        eight().due("wedding(6)", 1).refused("wedding(7)", -1).refused("wedding(8)", -1);
        nothing().refused("wedding(0)", -1).refused("wedding(-1)", -1);
    }

    private static void worth() {
        CHECKS.promise(19, "WORTH. -1000000001.");
        for (int house : new int[] {-1, 3, LOW, HIGH}) {
            three().refused("worth(" + house + ", 5)", -1000000001).refused("worth(" + house + ", -1)", -1000000001);
        }
        for (int purse : new int[] {-1, 10000, LOW, HIGH}) {
            three().refused("worth(0, " + purse + ")", -1000000001);
        }
        three().due("worth(0, 0)", -12).due("worth(0, 9999)", 9987).due("worth(2, 0)", 0);
        eight().due("worth(7, 0)", -10).refused("worth(8, 0)", -1000000001);
        nothing().refused("worth(0, 0)", -1000000001);
    }

    // ---- promises 20 to 24

    private static void fitting() {
        CHECKS.promise(20, "FITTING: how many (what 0), the least (1; -4), the greatest (2; -4). -1.");
        for (int house : new int[] {-1, 3, LOW, HIGH}) {
            three().refused("fitting(" + house + ", 0)", -1).refused("fitting(" + house + ", 3)", -1);
        }
        for (int what : new int[] {-1, 3, LOW, HIGH}) {
            three().refused("fitting(0, " + what + ")", -1);
        }
        three().due("fitting(0, 0)", 13).due("fitting(0, 1)", 0).due("fitting(0, 2)", 12);
        eight().due("fitting(7, 0)", 7).refused("fitting(8, 0)", -1);
        street("h000;h001;h300;").due("fitting(2, 0)", 0).due("fitting(2, 1)", -4).due("fitting(2, 2)", -4);
        nothing().refused("fitting(0, 0)", -1);
    }

    private static void tax() {
        CHECKS.promise(22, "TAX. -1.");
        for (int level : new int[] {-1, 10000, LOW, HIGH}) {
            three().refused("tax(" + level + ")", -1);
            nothing().refused("tax(" + level + ")", -1);
        }
        three().due("tax(0)", 0).due("tax(9999)", 10010);
    }

    private static void seeded() {
        CHECKS.promise(23, "SEEDED. -1, -3 there are no HOUSES.");
        for (int n : new int[] {0, -1, 41, LOW, HIGH}) {
            three().refused("seeded(" + n + ", 5)", -1);
            nothing().refused("seeded(" + n + ", 5)", -1);
        }
        nothing().refused("seeded(1, 5)", -3).refused("seeded(40, " + LOW + ")", -3);
        street("h300;h300;").due("seeded(1, " + LOW + ")", 1).due("seeded(40, " + HIGH + ")", 40);
    }

    private static void given() {
        CHECKS.promise(21, "GIVEN by the ROW in SHELF d: BREACHES (what 0), how many (1). -1, and of the ROW.");
        for (int d : NO_SHELVES) {
            three().refused("given(" + d + ", 0)", -1).refused("given(" + d + ", 2)", -1);
        }
        for (int what : new int[] {-1, 2, LOW, HIGH}) {
            three().refused("given(3, " + what + ")", -1).refused("given(0, " + what + ")", -1);
            three().refused("given(1, " + what + ")", -1).refused("given(2, " + what + ")", -1).putRow(3, 1, 0).refused("given(3, " + what + ")", -1);
        }
        three().refused("given(0, 0)", -11).refused("given(7, 1)", -11).refused("given(1, 0)", -12).refused("given(5, 1)", -12);
        three().refused("given(2, 0)", -12).refused("given(4, 1)", -12).putRow(4, 2, 0).refused("given(4, 0)", -12);
        three().putRow(3, 1, 0, 1).refused("given(3, 0)", -13).putRow(3, 1, 0, 3, 1).refused("given(3, 1)", -13);
        three().due("given(3, 0)", 0).due("given(3, 1)", 1);
        nothing().make("row(0, 1, 3)").refused("given(0, 0)", -13).make("row(0, 1, 0)").due("given(0, 0)", 0).due("given(0, 1)", 0);
    }

    private static void judge() {
        CHECKS.promise(24, "JUDGED by the ROW in SHELF d; -4. -1, -11, -12 (no ROW).");
        for (int d : NO_SHELVES) {
            three().refused("judge(" + d + ")", -1);
        }
        three().refused("judge(0)", -11).refused("judge(7)", -11).refused("judge(1)", -12).refused("judge(6)", -12);
        three().due("judge(2)", 0).due("judge(3)", 0).due("judge(4)", 2).putRow(4, 2, 5, 6, 9999).due("judge(4)", -4);
    }

    // ---- promises 25 to 27

    private static void restore() {
        CHECKS.promise(26, "THE IMAGE is RESTORED: all coins. -3: there is none.");
        nothing().refused("restore()", -3);
        street("h005;h006;r1;").make("keep(0, 1, 2, 3)").refused("restore()", -3).due("image()", 11).due("restore()", 11);
    }

    private static void image() {
        CHECKS.promise(25, "THE IMAGE is taken: all coins.");
        three().due("image()", 10010).due("restore()", 10010);
        nothing().due("image()", 0).due("restore()", 0);
    }

    private static void count() {
        CHECKS.promise(27, "0 HOUSES, 1 ROUND, 2 all coins, 3 HOUSES without BREACH; -1 for others.");
        for (int what : new int[] {-1, 4, LOW, HIGH}) {
            three().refused("count(" + what + ")", -1);
            nothing().refused("count(" + what + ")", -1);
        }
        three().due("count(0)", 3).due("count(1)", 1).due("count(2)", 10010).due("count(3)", 3);
        street("h001;h004;h001;h001;r1;").due("count(3)", 3).due("count(0)", 4);
    }

    // ---- promises 28 to 34

    private static void keep() {
        CHECKS.promise(28, "SHELF d gets: what = 0 nothing (the others do not matter); 1 a HOUSE of KIND k with a FIGURE: 0. -1.");
        for (int d : NO_SHELVES) {
            three().refused("keep(" + d + ", 0, 0, 0)", -1).refused("keep(" + d + ", 1, 0, 0)", -1).refused("keep(" + d + ", 2, 8, 10)", -1);
        }
        for (int what : new int[] {-1, 2, LOW, HIGH}) {
            three().refused("keep(0, " + what + ", 0, 0)", -1).refused("keep(1, " + what + ", 0, 0)", -1).refused("keep(2, " + what + ", 0, 0)", -1);
        }
        for (int d = 0; d < 3; d++) {
            for (int kind : new int[] {-1, 8, LOW, HIGH}) {
                three().refused("keep(" + d + ", 1, " + kind + ", 0)", -1);
            }
            for (int figure : new int[] {-1, 10, LOW, HIGH}) {
                three().refused("keep(" + d + ", 1, 0, " + figure + ")", -1);
            }
            three().due("keep(" + d + ", 1, 0, 0)", 0).due("fee(" + d + ")", 5).due("keep(" + d + ", 1, 7, 9)", 0).due("fee(" + d + ")", 16);
            three().due("keep(" + d + ", 0, " + LOW + ", " + HIGH + ")", 0).due("fee(" + d + ")", -11).due("judge(" + d + ")", -11);
        }
    }

    private static void row() {
        CHECKS.promise(29, "SHELF d gets a ROW of a SORT: 0. -1 (n above 100); -14.");
        for (int d : NO_SHELVES) {
            three().refused("row(" + d + ", 0, 1)", -1).refused("row(" + d + ", 0, -1)", -1);
        }
        for (int sort : new int[] {-1, 3, LOW, HIGH}) {
            three().refused("row(0, " + sort + ", 1)", -1).refused("row(1, " + sort + ", -1)", -1).refused("row(2, " + sort + ", 101)", -1);
        }
        for (int sort = 0; sort < 3; sort++) {
            three().refused("row(0, " + sort + ", 101)", -1).refused("row(1, " + sort + ", " + HIGH + ")", -1);
            three().refused("row(2, " + sort + ", -1)", -14).refused("row(1, " + sort + ", " + LOW + ")", -14).refused("row(0, " + sort + ", -1)", -14);
            nothing().due("row(7, " + sort + ", 100)", 0).due("row(7, " + sort + ", 0)", 0);
        }
    }

    private static void put() {
        CHECKS.promise(30, "Element i of the ROW becomes v: 0. -1, -11, -12, -13.");
        for (int d : NO_SHELVES) {
            three().refused("put(" + d + ", 0, 1)", -1).refused("put(" + d + ", -1, 1)", -1);
        }
        three().refused("put(0, 0, 1)", -11).refused("put(0, -1, 1)", -11).refused("put(7, 100, 1)", -11);
        three().refused("put(1, 0, 1)", -12).refused("put(1, -1, 1)", -12).refused("put(6, 100, 1)", -12);
        for (int i : new int[] {-1, 3, 100, LOW, HIGH}) {
            three().refused("put(2, " + i + ", 1)", -13).refused("put(3, " + i + ", 1)", -13).refused("put(4, " + i + ", 1)", -13);
        }
        three().due("put(4, 0, 1)", 0).due("put(4, 2, 1)", 0).make("row(4, 2, 0)").refused("put(4, 0, 1)", -13);
    }

    private static void element() {
        CHECKS.promise(31, "IllegalArgumentException: no such SHELF; IllegalStateException: no ROW, no such place.");
        for (int d : NO_SHELVES) {
            three().refused("element(" + d + ", 0)", Trial.ILLEGAL_ARGUMENT).refused("element(" + d + ", -1)", Trial.ILLEGAL_ARGUMENT);
        }
        three().refused("element(0, 0)", Trial.ILLEGAL_STATE).refused("element(7, -1)", Trial.ILLEGAL_STATE);
        three().refused("element(1, 0)", Trial.ILLEGAL_STATE).refused("element(1, 3)", Trial.ILLEGAL_STATE);
        for (int i : new int[] {-1, 3, 100, LOW, HIGH}) {
            for (int d = 2; d < 5; d++) {
                three().refused("element(" + d + ", " + i + ")", Trial.ILLEGAL_STATE);
            }
        }
        three().due("element(4, 0)", 5).due("element(4, 2)", 70000).make("row(4, 2, 0)").refused("element(4, 0)", Trial.ILLEGAL_STATE);
    }

    private static void copy() {
        CHECKS.promise(32, "-1, -11 (either), -12 (no ROWS of one SORT), -13 (n below 0, too).");
        for (int d : NO_SHELVES) {
            three().refused("copy(" + d + ", 0, 3, 0, 1)", -1).refused("copy(3, 0, " + d + ", 0, 1)", -1);
            three().refused("copy(" + d + ", 0, 0, 0, 1)", -1).refused("copy(0, 0, " + d + ", 0, 1)", -1);
            three().refused("copy(" + d + ", 0, 1, 0, -1)", -1).refused("copy(1, -1, " + d + ", 0, 1)", -1);
        }
        three().refused("copy(0, 0, 3, 0, 1)", -11).refused("copy(3, 0, 0, 0, 1)", -11).refused("copy(0, 0, 7, 0, 1)", -11);
        three().refused("copy(0, 0, 1, 0, 1)", -11).refused("copy(1, 0, 0, 0, 1)", -11).refused("copy(0, -1, 3, 0, -1)", -11);
        three().refused("copy(1, 0, 3, 0, 1)", -12).refused("copy(3, 0, 1, 0, 1)", -12).refused("copy(1, 0, 5, 0, 1)", -12).refused("copy(1, 0, 1, 0, 0)", -12);
        three().refused("copy(2, 0, 3, 0, 1)", -12).refused("copy(3, 0, 4, 0, 1)", -12).refused("copy(4, 0, 2, 0, 1)", -12);
        three().refused("copy(2, 0, 3, 0, -1)", -12).refused("copy(3, 3, 4, 0, 1)", -12).refused("copy(1, -1, 3, 0, 1)", -12);
        CHECKS.promise(32, "-13 (n below 0, too).");
        for (int n : new int[] {-1, 4, LOW, HIGH}) {
            copyRefused(0, 0, n);
        }
        for (int at : new int[] {-1, 4, LOW, HIGH}) {
            for (int n = 0; n < 3; n++) {
                copyRefused(at, 0, n);
                copyRefused(0, at, n);
            }
        }
        copyRefused(3, 0, 1);
        copyRefused(0, 3, 1);
        copyRefused(1, 0, 3);
        copyRefused(0, 1, 3);
        copyRefused(1, 1, HIGH);
        copyRefused(HIGH, HIGH, HIGH);
        copyRefused(LOW, LOW, LOW);
        CHECKS.promise(32, "n elements of the ROW in SHELF d from i on come to that in SHELF e from j on: n.");
        Trial t = three().putRow(7, 2, 1, 2, 3);
        t.due("copy(4, 3, 7, 3, 0)", 0).due("copy(4, 0, 7, 0, 0)", 0).due("element(7, 0)", 1).due("copy(4, 2, 7, 0, 1)", 1);
        t.due("element(7, 0)", 70000).due("element(7, 1)", 2).due("copy(4, 0, 7, 0, 3)", 3).due("element(7, 2)", 70000);
        t.due("copy(7, 0, 7, 1, 2)", 2).due("element(7, 0)", 5).due("element(7, 1)", 5).due("element(7, 2)", 6);
        t.due("copy(7, 1, 7, 0, 2)", 2).due("element(7, 0)", 5).due("element(7, 1)", 6).due("element(7, 2)", 6);
        Trial empty = nothing().make("row(0, 0, 0)").due("copy(0, 0, 0, 0, 0)", 0);
        empty.refused("copy(0, 0, 0, 0, 1)", -13).refused("copy(0, 1, 0, 0, 0)", -13).refused("copy(0, 0, 0, 1, 0)", -13);
        Trial hundred = nothing().make("row(0, 1, 100)").make("row(1, 1, 100)").make("put(0, 99, 7)").due("copy(0, 0, 1, 0, 100)", 100);
        hundred.due("element(1, 99)", 7).due("copy(0, 99, 1, 0, 1)", 1).due("element(1, 0)", 7).due("copy(0, 0, 1, 0, 101)", -13);
    }

    // From one row of 3 to another one of 3.
    private static void copyRefused(int i, int j, int n) {
        nothing().putRow(0, 1, 1, 2, 3).putRow(1, 1, 4, 5, 6).refused("copy(0, " + i + ", 1, " + j + ", " + n + ")", -13);
    }

    private static void feeToss() {
        CHECKS.promise(33, "FEE of the HOUSE on SHELF d. -1, -11, -12 (a ROW).");
        CHECKS.promise(34, "-1, -11, -12 (a ROW); -15: WALLS, and any with FIGURE 0, have none.");
        for (int d : NO_SHELVES) {
            three().refused("fee(" + d + ")", -1).refused("toss(" + d + ")", -1);
        }
        three().refused("fee(0)", -11).refused("toss(0)", -11).refused("fee(7)", -11).refused("toss(7)", -11);
        for (int d = 2; d < 5; d++) {
            three().refused("fee(" + d + ")", -12).refused("toss(" + d + ")", -12);
        }
        three().refused("toss(5)", -15).refused("toss(6)", -15).due("fee(5)", 8).due("fee(6)", 5).due("toss(1)", 104);
        CHECKS.promise(34, "its FIGURE; of BEGGARS 100 more; of TWINS 200 plus their FEE, in place of all that (FIGURE, too).");
        for (int kind = 0; kind < 8; kind++) {
            nothing().make("keep(0, 1, " + kind + ", 0)").refused("toss(0)", -15);
        }
        int[][] first = {{0, 1}, {1, 1}, {2, 1}, {4, 1}, {5, 101}, {6, 209}, {7, 1}};
        int[][] last = {{0, 9}, {1, 9}, {2, 9}, {4, 9}, {5, 109}, {6, 241}, {7, 9}};
        for (int i = 0; i < first.length; i++) {
            nothing().make("keep(0, 1, " + first[i][0] + ", 1)").due("toss(0)", first[i][1]);
            nothing().make("keep(0, 1, " + last[i][0] + ", 9)").due("toss(0)", last[i][1]);
        }
    }
}
