/** The document's paragraphs "Said once more" and "Answers of several refusals", and its words on 512 calls. */
public final class SaidOnceMoreTest {
    private static final Checks CHECKS = new Checks();
    private static final int LOW = Trial.LOW;

    public static void main(String[] args) {
        moreAndLessThanWhatItIsUnder();
        andIsTheSum();
        kind1GoesAheadOfKind2();
        statementsAreTriedOneBehindTheOther();
        rowThatIsReadStays();
        whatIsTakenFromAShelfStays();
        shelvesStayWhenTheImageIsRestored();
        numbersThatMayBeBelow0();
        calls512();
        CHECKS.end();
    }

    private static Trial nothing() {
        return new Trial(CHECKS);
    }

    private static Trial street(String text) {
        return new Trial(CHECKS, text);
    }

    private static void moreAndLessThanWhatItIsUnder() {
        CHECKS.sentence("of a KIND (or SORT) \"n more\", \"n less\" without more words is: than what the one it is under has");
        Trial t = nothing().make("keep(0, 1, 0, 9)").due("fee(0)", 5).make("keep(0, 1, 2, 9)").due("fee(0)", 3);
        t.make("keep(0, 1, 5, 9)").due("toss(0)", 109).make("keep(0, 1, 2, 9)").due("toss(0)", 9);
        t.make("keep(0, 1, 5, 1)").due("toss(0)", 101).due("fee(0)", 4);
    }

    private static void andIsTheSum() {
        CHECKS.sentence("\"a and b\" of two numbers is their sum");
        Trial t = nothing().make("keep(0, 1, 1, 9)").due("fee(0)", 50).make("keep(0, 1, 3, 9)").due("fee(0)", 8);
        t.make("keep(0, 1, 5, 9)").due("fee(0)", 12).make("keep(0, 1, 4, 9)").due("fee(0)", 51);
        street("h193;h590;").due("house(0, 5)", 11).due("house(1, 3)", 9).due("house(0, 4)", 27);
    }

    private static void kind1GoesAheadOfKind2() {
        CHECKS.sentence("kind 1 (of any place) goes ahead of kind 2");
        Trial t = street("h005;h005;");
        t.refusedText("h801;", -2000).refusedText("h801;x", -1005).refusedText("h801;u", -1006);
        t.refusedText("r9;h801;g001;m00;x", -1017).refusedText("u;u;u;u", -1007).refusedText("h8", -1002);
        t.refusedText("r9;".repeat(33) + "r", -1100);
    }

    private static void statementsAreTriedOneBehindTheOther() {
        CHECKS.sentence("STATEMENTS are tried one behind the other, each on what those ahead of it made, "
            + "and the first that can't be done so is told.");
        street("h005;").refusedText("g011;h005;", -2000).read("h005;g011;", 2);
        street("h005;").refusedText("m01;h005;", -2000).read("h005;m01;", 2);
        street("h005;").refusedText("h005;u;g011;", -2007).refusedText("u;u;h005;", -2002).read("u;h005;u;", 3);
        street("h005;h000;").refusedText("g106;g015;", -2000).refusedText("g015;g106;", -2005).read("g015;g105;", 2);
        street("h005;h003;").refusedText("m01;g014;", -2004).read("g014;m01;", 2);
        street("h009999;h001;").refusedText("g101;g012;", -2000).read("g012;g101;", 2);
        nothing().refusedText("h001;h001;h001;h001;h001;h001;h001;h001;h001;u;", -2040);
        nothing().read("h001;h001;h001;h001;h001;h001;h001;h001;u;h002;", 10).due("house(7, 2)", 2);
        street("h005;").refusedText("r1;r9;h801;", -2003);
    }

    private static void rowThatIsReadStays() {
        CHECKS.sentence("The ROW that is read, and what is taken from a SHELF, stay there");
        Trial t = street("h005;h005;").putText(0, "r1;").due("street(0)", 1);
        t.due("element(0, 0)", 'r').due("element(0, 1)", '1').due("element(0, 2)", ';').due("element(0, 3)", Trial.ILLEGAL_STATE);
        t.due("round(0)", 1).due("street(0)", 1).due("count(1)", 1);
        t.putRow(1, 1, 0, 1, 5).due("given(1, 1)", 1).due("given(1, 1)", 1).due("element(1, 2)", 5);
        t.putRow(2, 2, 5, 6).due("judge(2)", 1).due("judge(2)", 1).due("element(2, 1)", 6);
        t.putRow(3, 2, 7, 8).due("copy(2, 0, 3, 0, 2)", 2).due("element(2, 0)", 5).due("element(3, 0)", 5);
    }

    private static void whatIsTakenFromAShelfStays() {
        CHECKS.sentence("what is taken from a SHELF, stay there");
        Trial t = nothing().make("keep(0, 1, 6, 9)").due("comes(0, 1)", 0).due("comes(0, 2)", 1);
        t.due("fee(0)", 41).due("fee(0)", 41).due("toss(0)", 241).due("toss(0)", 241).due("comes(0, 3)", 2);
        t.make("keep(0, 1, 1, 2)").due("house(0, 0)", 6).due("house(0, 1)", 9).due("weeks(1)", 72).due("fee(0)", 15);
        t.make("keep(0, 0, 0, 0)").due("house(2, 1)", 9).due("count(0)", 3);
    }

    private static void shelvesStayWhenTheImageIsRestored() {
        CHECKS.sentence("when THE IMAGE is RESTORED, SHELVES stay as they are.");
        Trial t = nothing().make("keep(0, 1, 1, 1)").make("row(1, 0, 2)").due("image()", 0);
        t.make("keep(0, 1, 6, 9)").make("put(1, 0, 5)").make("row(2, 2, 1)").due("restore()", 0);
        t.due("fee(0)", 41).due("element(1, 0)", 5).due("element(2, 0)", 0).due("fee(3)", -11);
    }

    private static void numbersThatMayBeBelow0() {
        CHECKS.sentence("where numbers that may be below 0 are answered (told at the call), 1000000000 less.");
        Trial t = street("h005;");
        t.refused("worth(-1, 5)", -1000000001).refused("worth(1, 5)", -1000000001).refused("worth(0, -1)", -1000000001);
        t.due("worth(0, 4999)", -1).due("worth(0, 4998)", -3).due("worth(0, 4994)", -11);
        t.putRow(0, 2, -1, -11, LOW).due("element(0, 0)", -1).due("element(0, 1)", -11).due("element(0, 2)", LOW);
    }

    private static void calls512() {
        CHECKS.sentence("An object is used for at most 512 calls after it has been made");
        TwiceAsRich x = Calls.street("h301;h301;h301;h301;h301;h301;");
        // The text of 30 bytes took 32 calls.
        for (int call = 33; call <= 512; call++) {
            CHECKS.due("partings(20) as call " + call, x.partings(20), 11628);
        }
        TwiceAsRich y = new TwiceAsRich();
        Calls.putText(y, 0, "h001;u;".repeat(14) + "u;");
        Calls.putText(y, 1, "h001;u;".repeat(14));
        // The two rows took 101 and 99 calls.
        for (int call = 201; call <= 512; call += 2) {
            CHECKS.due("a text with a fault at its end as call " + call, y.street(0), -2098);
            CHECKS.due("houses that come and go as call " + (call + 1), y.street(1), 28);
        }
    }
}
