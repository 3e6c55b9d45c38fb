/** The document's paragraph 1 under "Terms" and the block behind it: each sentence that names a bound. */
public final class Terms1Test {
    private static final Checks CHECKS = new Checks();
    private static final int LOW = Trial.LOW;
    private static final int HIGH = Trial.HIGH;

    public static void main(String[] args) {
        housesAreEightAtMost();
        housesComeOneBesideTheOther();
        roundIs0Or1And0AtFirst();
        lastIsBesideTheFirst();
        purseIs0To9999();
        kindIs0To7();
        figureIs0To9();
        shows();
        mayHave();
        earns();
        breachIsMoreThanMayHave();
        lawfulIfThereIsNone();
        mostIsTheLeastAndNoMoreThan9999();
        fees();
        shelvesAre0To7();
        shelvesHoldNothingAtFirst();
        sortsAre0To2();
        rowsHave0To100ElementsWhichAre0AtFirst();
        lowestBitsAreKept();
        nothingIsHeld();
        anotherKindIsHeld();
        placeThatIsNotThere();
        sizeBelow0();
        failureThatIsNone();
        giftsAreShorts();
        giftsComeByThrees();
        giftsNameAHouseAndAnotherOne();
        giftsHave1To9999Coins();
        giftsAre8AtMost();
        CHECKS.end();
    }

    private static Trial street(String text) {
        return new Trial(CHECKS, text);
    }

    private static Trial nothing() {
        return new Trial(CHECKS);
    }

    // ---- houses

    private static void housesAreEightAtMost() {
        CHECKS.sentence("HOUSES 0 .. 7 as they come (8 at most)");
        Trial t = nothing().due("keep(0, 1, 0, 0)", 0).due("count(0)", 0).refused("house(0, 2)", -1);
        for (int i = 0; i < 8; i++) {
            t.due("comes(0, " + (10 + i) + ")", i).due("count(0)", i + 1);
            t.due("house(" + i + ", 2)", 10 + i).due("house(" + (i + 1) + ", 2)", -1);
        }
        t.refused("comes(0, 18)", -2).refusedText("h0018;", -2000).due("count(0)", 8);
        t.due("house(0, 2)", 10).due("house(7, 2)", 17).refused("house(8, 2)", -1).refused("house(-1, 2)", -1);
    }

    private static void housesComeOneBesideTheOther() {
        CHECKS.sentence("one beside the other");
        Trial t = street("h009;h001;h009;h001;h009;");
        t.due("breaches(0)", 1).due("breaches(1)", 0).due("breaches(2)", 2).due("breaches(3)", 0).due("breaches(4)", 1);
        street("h001;h002;h004;").due("lawful()", 1);
        street("h001;h301;h009;").due("lawful()", 1);
    }

    private static void roundIs0Or1And0AtFirst() {
        CHECKS.sentence("ROUND (0, 1; 0 at first)");
        nothing().due("count(1)", 0).due("round(0)", 0).due("round(1)", 0).due("round(0)", 1).due("count(1)", 0);
        nothing().refused("round(2)", -1).refused("round(-1)", -1).refusedText("r2;", -2000);
        nothing().read("r1;", 1).due("count(1)", 1).read("r0;", 1).due("count(1)", 0);
    }

    private static void lastIsBesideTheFirst() {
        CHECKS.sentence("if it is 1 and there are 3 HOUSES at least, the last is beside the first, too.");
        nothing().due("round(1)", 0).due("breaches(-1)", 0);
        street("h009;r1;").due("house(0, 4)", 9999).due("breaches(0)", 0).due("held(0)", 0);
        street("h001;h003;r1;").due("breaches(-1)", 1).due("house(1, 4)", 2).due("held(1)", 1).due("held(0)", 0);
        Trial three = street("h001;h002;h003;r1;").due("breaches(2)", 1).due("house(2, 4)", 2).due("held(2)", 1);
        three.due("house(0, 4)", 4).due("round(0)", 1).due("breaches(2)", 0).due("house(2, 4)", 4);
        Trial eight = street("h001;h002;h003;h003;h003;h003;h003;h003;r1;");
        eight.due("breaches(7)", 1).due("house(7, 4)", 2).due("held(7)", 1).due("house(0, 4)", 4);
        eight.due("round(0)", 1).due("breaches(7)", 0).due("house(7, 4)", 6).due("held(7)", 0);
        Trial otherWay = street("h003;h003;h003;h003;h003;h003;h002;h001;r1;").due("breaches(0)", 1).due("held(0)", 128);
        otherWay.due("round(0)", 1).due("breaches(0)", 0).due("held(0)", 0);
        street("h001;h002;r1;").due("lawful()", 1).read("h003;", 1).due("lawful()", 0).read("u;", 1).due("lawful()", 1);
    }

    private static void purseIs0To9999() {
        CHECKS.sentence("Each has a PURSE (0 .. 9999 coins)");
        Trial t = nothing().due("keep(0, 1, 0, 0)", 0);
        t.refused("comes(0, -1)", -1).refused("comes(0, 10000)", -1).refused("comes(0, " + HIGH + ")", -1);
        t.due("comes(0, 0)", 0).due("comes(0, 9999)", 1).due("house(0, 2)", 0).due("house(1, 2)", 9999);
        t.read("h000;h009999;", 2).due("house(2, 2)", 0).due("house(3, 2)", 9999);
        t.refused("give(1, 3, 1)", -2).refused("give(2, 1, 1)", -3).due("weeks(99)", 198 + 9999 + 198 + 9999);
    }

    private static void kindIs0To7() {
        CHECKS.sentence("a KIND: 0 HOUSE; 1 HEIR under HOUSE; 2 PRIEST under HOUSE; 3 WALL under HOUSE; "
            + "4 MISER under HEIR; 5 BEGGAR under PRIEST; 6 TWINS under HEIR; 7 BLIND under WALL");
        Trial t = nothing().refused("keep(0, 1, -1, 0)", -1).refused("keep(0, 1, 8, 0)", -1).refusedText("h801;", -2000);
        for (int k = 0; k < 8; k++) {
            t.due("keep(0, 1, " + k + ", 0)", 0).due("comes(0, 0)", k).due("house(" + k + ", 0)", k);
        }
        street("h000;h100;h200;h300;h400;h500;h600;h700;").due("house(0, 0)", 0).due("house(7, 0)", 7);
    }

    private static void figureIs0To9() {
        CHECKS.sentence("a FIGURE (0 .. 9)");
        Trial t = nothing().refused("keep(0, 1, 0, -1)", -1).refused("keep(0, 1, 0, 10)", -1);
        t.due("keep(0, 1, 0, 0)", 0).due("comes(0, 0)", 0).due("house(0, 1)", 0);
        t.due("keep(0, 1, 0, 9)", 0).due("comes(0, 0)", 1).due("house(1, 1)", 9);
        street("h000;h090;").due("house(0, 1)", 0).due("house(1, 1)", 9);
    }

    // ---- what the kinds are like

    private static void shows(int kind, int figure, int purse, int want) {
        street("h" + kind + figure + purse + ";").due("house(0, 3)", want);
    }

    private static void shows() {
        CHECKS.sentence("SHOWS (of a PURSE): HOUSE it");
        shows(0, 9, 0, 0);
        shows(0, 9, 1, 1);
        shows(0, 0, 9999, 9999);
        CHECKS.sentence("HEIR as a HOUSE; PRIEST");
        shows(1, 9, 0, 0);
        shows(1, 9, 9999, 9999);
        CHECKS.sentence("PRIEST nine tenths of a HOUSE's, cut");
        int[][] tenths = {{0, 0}, {1, 0}, {2, 1}, {9, 8}, {10, 9}, {11, 9}, {12, 10}, {19, 17}, {20, 18}, {9998, 8998}, {9999, 8999}};
        for (int[] tenth : tenths) {
            shows(2, 9, tenth[0], tenth[1]);
        }
        CHECKS.sentence("WALL is not looked at");
        shows(3, 9, 0, -4);
        shows(3, 0, 9999, -4);
        street("h009999;h300;").due("house(0, 4)", 9999).due("breaches(0)", 0).due("held(0)", 0);
        CHECKS.sentence("MISER half of an HEIR's, cut");
        int[][] halves = {{0, 0}, {1, 0}, {2, 1}, {3, 1}, {9998, 4999}, {9999, 4999}};
        for (int[] half : halves) {
            shows(4, 9, half[0], half[1]);
        }
        CHECKS.sentence("BEGGAR a PRIEST's and FIGURE; TWINS as an HEIR");
        shows(5, 0, 0, 0);
        shows(5, 9, 0, 9);
        shows(5, 9, 1, 9);
        shows(5, 1, 19, 18);
        shows(5, 9, 9999, 9008);
        shows(6, 9, 0, 0);
        shows(6, 9, 9999, 9999);
        CHECKS.sentence("BLIND is looked at, as a HOUSE.");
        shows(7, 9, 0, 0);
        shows(7, 9, 9999, 9999);
        street("h001;h700;").due("house(0, 4)", 0).due("breaches(0)", 1).due("held(0)", 2);
    }

    // A house of the kind may have so much by one that shows x, and one coin more is a breach.
    private static void mayHave(int kind, int figure, int x, int want) {
        street("h" + kind + figure + "0;h00" + x + ";").due("house(0, 4)", Math.min(9999, want));
        if (want <= 9999) {
            street("h" + kind + figure + want + ";h00" + x + ";").due("breaches(0)", 0);
        }
        if (want < 9999) {
            street("h" + kind + figure + (want + 1) + ";h00" + x + ";").due("breaches(0)", 1);
        }
    }

    private static void mayHave() {
        CHECKS.sentence("MAY HAVE (by one beside it that SHOWS x): HOUSE 2 x");
        mayHave(0, 9, 0, 0);
        mayHave(0, 9, 1, 2);
        mayHave(0, 9, 4999, 9998);
        mayHave(0, 9, 5000, 10000);
        CHECKS.sentence("HEIR a HOUSE's and FIGURE; PRIEST as a HOUSE");
        mayHave(1, 0, 0, 0);
        mayHave(1, 9, 0, 9);
        mayHave(1, 9, 4994, 9997);
        mayHave(1, 9, 4995, 9999);
        mayHave(1, 9, 4996, 10001);
        mayHave(2, 9, 0, 0);
        mayHave(2, 9, 4999, 9998);
        CHECKS.sentence("WALL 9999; MISER an HEIR's less 1, 0 at least");
        mayHave(3, 9, 0, 9999);
        mayHave(3, 0, 9999, 9999);
        mayHave(4, 0, 0, 0);
        mayHave(4, 1, 0, 0);
        mayHave(4, 2, 0, 1);
        mayHave(4, 0, 1, 1);
        mayHave(4, 9, 4995, 9998);
        CHECKS.sentence("BEGGAR as a PRIEST; TWINS twice an HEIR's; BLIND as a WALL.");
        mayHave(5, 9, 0, 0);
        mayHave(5, 9, 3, 6);
        mayHave(6, 0, 0, 0);
        mayHave(6, 9, 0, 18);
        mayHave(6, 1, 2499, 9998);
        mayHave(6, 0, 2500, 10000);
        mayHave(7, 9, 0, 9999);
    }

    private static void earns(int kind, int figure, int want) {
        street("h" + kind + figure + "0;").due("house(0, 5)", want).due("weeks(1)", want).due("weeks(99)", 100 * want);
    }

    private static void earns() {
        CHECKS.sentence("EARNS in a week: HOUSE 2; HEIR a HOUSE's and FIGURE");
        earns(0, 0, 2);
        earns(0, 9, 2);
        earns(1, 0, 2);
        earns(1, 9, 11);
        CHECKS.sentence("PRIEST a HOUSE's less 1; WALL 0; MISER an HEIR's less 1");
        earns(2, 9, 1);
        earns(3, 9, 0);
        earns(4, 0, 1);
        earns(4, 9, 10);
        CHECKS.sentence("BEGGAR a PRIEST's less 1; TWINS twice an HEIR's; BLIND a WALL's and FIGURE.");
        earns(5, 9, 0);
        earns(6, 0, 4);
        earns(6, 9, 22);
        earns(7, 0, 0);
        earns(7, 9, 9);
    }

    // ---- breaches, lawful, most, fee

    private static void breachIsMoreThanMayHave() {
        CHECKS.sentence("A BREACH: a HOUSE has more than it MAY HAVE by one beside it (that is looked at).");
        street("h003;h006;").due("breaches(-1)", 0);
        street("h003;h007;").due("breaches(1)", 1).due("breaches(0)", 0);
        street("h007;h003;").due("breaches(0)", 1).due("breaches(1)", 0);
        street("h309999;h000;").due("breaches(-1)", 0);
        street("h709999;h000;").due("breaches(-1)", 0);
        street("h300;h001;h300;").due("breaches(-1)", 0);
        street("h700;h001;h700;").due("breaches(1)", 2);
        street("h300;h001;h700;").due("breaches(1)", 1);
    }

    private static void lawfulIfThereIsNone() {
        CHECKS.sentence("The street is LAWFUL if there is none.");
        nothing().due("lawful()", 1);
        street("h009999;").due("lawful()", 1);
        street("h003;h006;").due("lawful()", 1);
        street("h003;h007;").due("lawful()", 0);
        street("h001;h001;h001;h001;h001;h001;h001;h003;").due("lawful()", 0);
        street("h003;h001;h001;h001;h001;h001;h001;h001;").due("lawful()", 0);
    }

    private static void mostIsTheLeastAndNoMoreThan9999() {
        CHECKS.sentence("MOST of a HOUSE: the least of what it MAY HAVE by all beside it (9999: there are none), no more than 9999.");
        street("h005;").due("house(0, 4)", 9999);
        street("h300;h005;h300;").due("house(1, 4)", 9999);
        street("h300;h005;h003;").due("house(1, 4)", 6);
        street("h001;h005;h003;").due("house(1, 4)", 2);
        street("h003;h005;h001;").due("house(1, 4)", 2);
        street("h000;h005;h009999;").due("house(1, 4)", 0).due("house(0, 4)", 10).due("house(2, 4)", 10);
        street("h004999;h005;").due("house(1, 4)", 9998).due("weeks(1)", 5008).due("house(1, 4)", 9999);
        street("h009999;h699;h009999;").due("house(1, 4)", 9999);
    }

    private static void fee(int kind, int figure, int want) {
        nothing().due("keep(0, 1, " + kind + ", " + figure + ")", 0).due("fee(0)", want);
    }

    private static void fees() {
        CHECKS.sentence("FEE of a HOUSE: HOUSE 5; HEIR a HOUSE's times (FIGURE and 1); PRIEST a HOUSE's less 2");
        fee(0, 0, 5);
        fee(0, 9, 5);
        fee(1, 0, 5);
        fee(1, 9, 50);
        fee(2, 0, 3);
        fee(2, 9, 3);
        CHECKS.sentence("WALL a HOUSE's and 3; MISER an HEIR's and 1; BEGGAR a PRIEST's and FIGURE");
        fee(3, 0, 8);
        fee(3, 9, 8);
        fee(4, 0, 6);
        fee(4, 9, 51);
        fee(5, 0, 3);
        fee(5, 9, 12);
        CHECKS.sentence("TWINS an HEIR's less FIGURE; BLIND twice a WALL's.");
        fee(6, 0, 5);
        fee(6, 9, 41);
        fee(7, 0, 16);
        fee(7, 9, 16);
    }

    // ---- shelves

    private static void shelvesAre0To7() {
        CHECKS.sentence("SHELVES 0 .. 7");
        for (int d : new int[] {0, 7}) {
            Trial t = nothing().due("keep(" + d + ", 1, 0, 4)", 0).due("fee(" + d + ")", 5).due("toss(" + d + ")", 4);
            t.due("comes(" + d + ", 5)", 0).due("row(" + d + ", 0, 1)", 0).due("put(" + d + ", 0, 5)", 0);
            t.due("element(" + d + ", 0)", 5).due("judge(" + d + ")", -4).due("copy(" + d + ", 0, " + d + ", 0, 1)", 1);
            t.due("street(" + d + ")", -1000).due("row(" + d + ", 1, 0)", 0).due("given(" + d + ", 1)", 0);
        }
        for (int d : new int[] {-1, 8, LOW, HIGH}) {
            Trial t = street("h005;").make("row(0, 0, 2)");
            t.refused("street(" + d + ")", -1).refused("comes(" + d + ", 5)", -1).refused("given(" + d + ", 1)", -1);
            t.refused("judge(" + d + ")", -1).refused("keep(" + d + ", 1, 0, 4)", -1).refused("keep(" + d + ", 0, 0, 0)", -1);
            t.refused("row(" + d + ", 0, 1)", -1).refused("put(" + d + ", 0, 5)", -1).refused("fee(" + d + ")", -1);
            t.refused("copy(" + d + ", 0, 0, 0, 1)", -1).refused("copy(0, 0, " + d + ", 0, 1)", -1).refused("toss(" + d + ")", -1);
            t.refused("element(" + d + ", 0)", Trial.ILLEGAL_ARGUMENT);
        }
    }

    private static void shelvesHoldNothingAtFirst() {
        CHECKS.sentence("each hold nothing (at first), a HOUSE's KIND and FIGURE, a ROW.");
        Trial t = nothing();
        for (int d = 0; d < 8; d++) {
            t.due("fee(" + d + ")", -11).due("judge(" + d + ")", -11).due("element(" + d + ", 0)", Trial.ILLEGAL_STATE);
        }
        t.due("keep(3, 1, 6, 9)", 0).due("fee(3)", 41).due("judge(3)", -12);
        t.due("row(3, 1, 0)", 0).due("fee(3)", -12).due("judge(3)", -4);
        t.due("keep(3, 1, 2, 0)", 0).due("fee(3)", 3).due("judge(3)", -12);
        t.due("keep(3, 0, 0, 0)", 0).due("fee(3)", -11).due("judge(3)", -11);
        t.due("fee(2)", -11).due("fee(4)", -11);
    }

    private static void sortsAre0To2() {
        CHECKS.sentence("A ROW has a SORT (0 bytes, 1 shorts, 2 ints)");
        Trial t = nothing().refused("row(0, -1, 1)", -1).refused("row(0, 3, 1)", -1);
        long[] kept = {112, 4464, 70000};
        for (int sort = 0; sort < 3; sort++) {
            t.due("row(0, " + sort + ", 1)", 0).due("put(0, 0, 70000)", 0).due("element(0, 0)", kept[sort]);
        }
    }

    private static void rowsHave0To100ElementsWhichAre0AtFirst() {
        CHECKS.sentence("and 0 .. 100 elements, 0 at first");
        for (int sort = 0; sort < 3; sort++) {
            Trial t = nothing().refused("row(0, " + sort + ", 101)", -1).refused("row(0, " + sort + ", -1)", -14);
            t.due("row(0, " + sort + ", 0)", 0).due("element(0, 0)", Trial.ILLEGAL_STATE).refused("put(0, 0, 1)", -13);
            t.due("row(0, " + sort + ", 100)", 0);
            for (int i = 0; i < 100; i++) {
                t.due("element(0, " + i + ")", 0);
            }
            t.due("element(0, 100)", Trial.ILLEGAL_STATE).due("element(0, -1)", Trial.ILLEGAL_STATE);
            t.due("put(0, 99, 5)", 0).due("put(0, 0, 6)", 0).refused("put(0, 100, 7)", -13).refused("put(0, -1, 7)", -13);
            t.due("element(0, 99)", 5).due("element(0, 0)", 6).due("row(0, " + sort + ", 100)", 0);
            t.due("element(0, 99)", 0).due("element(0, 0)", 0);
        }
    }

    private static void kept(int sort, int v, long want) {
        Trial t = nothing().due("row(0, " + sort + ", 3)", 0).due("put(0, 1, " + v + ")", 0).due("element(0, 1)", want);
        t.due("element(0, 0)", 0).due("element(0, 2)", 0);
        t.due("row(1, " + sort + ", 1)", 0).due("copy(0, 1, 1, 0, 1)", 1).due("element(1, 0)", want);
    }

    private static void lowestBitsAreKept() {
        CHECKS.sentence("what is put in keeps its lowest bits.");
        int[][] bytes = {{127, 127}, {128, -128}, {-128, -128}, {-129, 127}, {255, -1}, {256, 0}, {-1, -1}, {-256, 0}, {HIGH, -1}, {LOW, 0}};
        for (int[] b : bytes) {
            kept(0, b[0], b[1]);
        }
        int[][] shorts = {{32767, 32767}, {32768, -32768}, {-32768, -32768}, {-32769, 32767}, {65535, -1}, {65536, 0}, {-1, -1}, {HIGH, -1}, {LOW, 0}};
        for (int[] s : shorts) {
            kept(1, s[0], s[1]);
        }
        for (int i : new int[] {0, -1, 128, 32768, 65536, HIGH, LOW}) {
            kept(2, i, i);
        }
    }

    private static void nothingIsHeld() {
        CHECKS.sentence("-11 nothing is held where something is wanted");
        Trial t = street("h005;h005;").make("row(1, 1, 3)");
        for (int d : new int[] {0, 7}) {
            t.refused("street(" + d + ")", -11).refused("comes(" + d + ", 5)", -11).refused("given(" + d + ", 0)", -11);
            t.refused("judge(" + d + ")", -11).refused("put(" + d + ", 0, 5)", -11).refused("fee(" + d + ")", -11);
            t.refused("copy(" + d + ", 0, 1, 0, 1)", -11).refused("copy(1, 0, " + d + ", 0, 1)", -11).refused("toss(" + d + ")", -11);
            t.refused("element(" + d + ", 0)", Trial.ILLEGAL_STATE);
        }
        t.due("keep(0, 0, 0, 0)", 0).due("row(7, 0, 1)", 0);
    }

    private static void anotherKindIsHeld() {
        CHECKS.sentence("-12 it is of another kind");
        Trial t = street("h005;h005;").make("keep(0, 1, 0, 5)").putText(1, "r1;").putRow(2, 1, 0, 1, 2).putRow(3, 2, 0, 1, 2);
        t.refused("street(0)", -12).refused("street(2)", -12).refused("street(3)", -12);
        t.refused("comes(1, 5)", -12).refused("comes(2, 5)", -12).refused("comes(3, 5)", -12);
        t.refused("given(0, 0)", -12).refused("given(1, 0)", -12).refused("given(3, 0)", -12);
        t.refused("judge(0)", -12).refused("put(0, 0, 5)", -12).refused("element(0, 0)", Trial.ILLEGAL_STATE);
        t.refused("copy(0, 0, 1, 0, 1)", -12).refused("copy(1, 0, 0, 0, 1)", -12).refused("copy(0, 0, 0, 0, 1)", -12);
        t.refused("copy(1, 0, 2, 0, 1)", -12).refused("copy(2, 0, 3, 0, 1)", -12).refused("copy(3, 0, 1, 0, 1)", -12);
        for (int d = 1; d < 4; d++) {
            t.refused("fee(" + d + ")", -12).refused("toss(" + d + ")", -12);
        }
        t.due("keep(1, 1, 0, 0)", 0).due("row(0, 0, 1)", 0);
    }

    private static void placeThatIsNotThere() {
        CHECKS.sentence("-13 a place that isn't there (a number or a size that isn't as told, too)");
        Trial t = street("h005;h005;").make("row(0, 1, 3)").make("row(1, 1, 4)");
        t.refused("put(0, 3, 1)", -13).refused("put(0, -1, 1)", -13).refused("put(1, 4, 1)", -13);
        t.refused("copy(0, 3, 1, 0, 1)", -13).refused("copy(0, 0, 1, 4, 1)", -13).refused("copy(0, 0, 1, 0, -1)", -13);
        t.refused("given(0, 0)", -13).refused("given(1, 0)", -13);
        t.due("put(0, 2, 1)", 0).due("put(0, 1, 1)", 0).due("given(0, 1)", 1);
    }

    private static void sizeBelow0() {
        CHECKS.sentence("-14 a size below 0");
        Trial t = nothing().make("keep(0, 1, 0, 5)");
        t.refused("row(0, 0, -1)", -14).refused("row(0, 1, -1)", -14).refused("row(0, 2, " + LOW + ")", -14);
        t.due("row(0, 2, 0)", 0);
    }

    private static void failureThatIsNone() {
        CHECKS.sentence("-15 a FAILURE that is none.");
        for (int k = 0; k < 8; k++) {
            nothing().make("keep(0, 1, " + k + ", 0)").refused("toss(0)", -15);
        }
        nothing().make("keep(0, 1, 3, 1)").refused("toss(0)", -15);
        nothing().make("keep(0, 1, 3, 9)").refused("toss(0)", -15);
        nothing().make("keep(0, 1, 7, 1)").due("toss(0)", 1);
    }

    // ---- rows of gifts

    private static Trial gifts(int... gifts) {
        return street("h009999;h005;h000;").putRow(0, 1, gifts);
    }

    private static void taken(int many, int... gifts) {
        gifts(gifts).due("given(0, 1)", many);
    }

    private static void notAsTold(int... gifts) {
        gifts(gifts).refused("given(0, 1)", -13).refused("given(0, 0)", -13);
    }

    private static void giftsAreShorts() {
        CHECKS.sentence("A ROW of GIFTS is of shorts");
        street("h005;h005;").putRow(0, 1, 0, 1, 1).due("given(0, 1)", 1).due("given(0, 0)", 0);
        street("h005;h005;").putRow(0, 0, 0, 1, 1).refused("given(0, 1)", -12);
        street("h005;h005;").putRow(0, 2, 0, 1, 1).refused("given(0, 1)", -12);
    }

    private static void giftsComeByThrees() {
        CHECKS.sentence("by threes a HOUSE, another one, coins");
        taken(0);
        notAsTold(0);
        notAsTold(0, 1);
        taken(1, 0, 1, 1);
        notAsTold(0, 1, 1, 0);
        notAsTold(0, 1, 1, 0, 1);
        taken(2, 0, 1, 1, 0, 1, 1);
    }

    private static void giftsNameAHouseAndAnotherOne() {
        CHECKS.sentence("a HOUSE, another one, coins (1 .. 9999)");
        taken(1, 0, 2, 1);
        taken(0, 2, 0, 1);
        notAsTold(-1, 0, 1);
        notAsTold(3, 0, 1);
        notAsTold(0, -1, 1);
        notAsTold(0, 3, 1);
        notAsTold(0, 0, 1);
        notAsTold(2, 2, 1);
        notAsTold(7, 0, 1);
        notAsTold(8, 0, 1);
        notAsTold(-32768, 0, 1);
        notAsTold(0, 32767, 1);
        notAsTold(0, 1, 1, 3, 0, 1);
        street("h001;h001;h001;h001;h001;h001;h001;h001;").putRow(0, 1, 7, 0, 1).due("given(0, 1)", 1);
    }

    private static void giftsHave1To9999Coins() {
        CHECKS.sentence("coins (1 .. 9999)");
        notAsTold(0, 1, 0);
        notAsTold(0, 1, -1);
        taken(1, 0, 1, 1);
        taken(1, 0, 2, 9999);
        taken(0, 1, 2, 9999);
        notAsTold(0, 2, 10000);
        notAsTold(0, 2, 32767);
        notAsTold(0, 1, 1, 0, 1, 0);
    }

    private static void giftsAre8AtMost() {
        CHECKS.sentence("8 GIFTS at most: -11, -12 (no ROW of shorts), -13 (not as told).");
        int[] eight = new int[24];
        int[] nine = new int[27];
        for (int i = 0; i < 27; i += 3) {
            nine[i + 1] = 1;
            nine[i + 2] = 1;
        }
        System.arraycopy(nine, 0, eight, 0, 24);
        taken(8, eight);
        notAsTold(nine);
        eight[23] = 0;
        notAsTold(eight);
        street("h005;h005;").refused("given(0, 0)", -11).make("keep(0, 1, 0, 0)").refused("given(0, 0)", -12);
    }
}
