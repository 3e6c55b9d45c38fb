/** The document's paragraph 2 under "Terms", a STREET as a text: each sentence that names a bound. */
public final class Terms2Test {
    private static final Checks CHECKS = new Checks();
    private static final String SEVEN = "h001;h001;h001;h001;h001;h001;h001;";

    public static void main(String[] args) {
        eachStatementHasASemicolonBehind();
        houseHasKindFigureAndPurseOf1To4Digits();
        aHouseMore();
        roundHasADigit();
        giftHasTwoHousesAndCoinsOf1To4Digits();
        firstGivesTheSecondSoMany();
        twoHousesChangePlaces();
        lastHouseIsNoMore();
        numbersMayBeginWith0();
        atLeastOneStatement();
        kind1IsTheFirstByteThatCanNotGoOn();
        kind1IsTheSizeIfItEndsTooEarly();
        kind2IsTheLetterOfTheFirstStatement();
        aNumberOutOfRange();
        noSuchHouse();
        oneTwice();
        coins0();
        moreThanThereAre();
        moreThanThereIsRoomFor();
        noRoomForAHouse();
        minus1000TimesTheKindLessThePlace();
        withoutFaultAllComesWithOneNothing();
        CHECKS.end();
    }

    private static Trial nothing() {
        return new Trial(CHECKS);
    }

    private static Trial street(String text) {
        return new Trial(CHECKS, text);
    }

    private static void read(String text, int statements) {
        street("h005;h005;").read(text, statements);
    }

    // Each kind of fault behind two houses with 5 coins each.
    private static void broken(String text, int place) {
        street("h005;h005;").refusedText(text, -1000 - place);
    }

    private static void wrong(String text, int place) {
        street("h005;h005;").refusedText(text, -2000 - place);
    }

    private static void eachStatementHasASemicolonBehind() {
        CHECKS.sentence("STATEMENTS, each with ; behind");
        read("u;", 1);
        read("u;u;", 2);
        broken("u", 1);
        broken("u;u", 3);
        broken("uu;", 1);
        broken("u;;", 2);
        broken("u :", 1);
        broken("h001:", 4);
        broken("r1,r0;", 2);
    }

    private static void houseHasKindFigureAndPurseOf1To4Digits() {
        CHECKS.sentence("h, KIND, FIGURE (digits), PURSE (1 to 4 digits): a HOUSE more");
        broken("h;", 1);
        broken("h0;", 2);
        broken("h00;", 3);
        street("h001;").due("house(0, 2)", 1);
        street("h0012;").due("house(0, 2)", 12);
        street("h00123;").due("house(0, 2)", 123);
        street("h001234;").due("house(0, 2)", 1234);
        broken("h0012345;", 7);
        broken("h/01;", 1);
        broken("h:01;", 1);
        broken("h0/1;", 2);
        broken("h0:1;", 2);
        broken("h00/;", 3);
        broken("h00:;", 3);
        broken("h001/;", 4);
        broken("h00-1;", 3);
        street("h790;").due("house(0, 0)", 7).due("house(0, 1)", 9).due("house(0, 2)", 0);
    }

    private static void aHouseMore() {
        CHECKS.sentence("a HOUSE more");
        Trial t = nothing().read("h001;", 1).due("count(0)", 1).read("h102;h203;", 2).due("count(0)", 3);
        t.due("house(0, 2)", 1).due("house(1, 0)", 1).due("house(2, 2)", 3).due("house(2, 0)", 2);
    }

    private static void roundHasADigit() {
        CHECKS.sentence("r, ROUND (a digit)");
        broken("r;", 1);
        broken("r/;", 1);
        broken("r:;", 1);
        read("r0;", 1);
        read("r1;", 1);
        wrong("r2;", 0);
        wrong("r9;", 0);
        broken("r10;", 2);
        broken("r00;", 2);
    }

    private static void giftHasTwoHousesAndCoinsOf1To4Digits() {
        CHECKS.sentence("g, two HOUSES (digits), coins (1 to 4 digits)");
        broken("g;", 1);
        broken("g0;", 2);
        broken("g01;", 3);
        broken("g01/;", 3);
        broken("g01:;", 3);
        read("g015;", 1);
        read("g0105;", 1);
        read("g01005;", 1);
        read("g010005;", 1);
        broken("g0100005;", 7);
        street("h009999;h000;").read("g019999;", 1).due("house(0, 2)", 0).due("house(1, 2)", 9999);
    }

    private static void firstGivesTheSecondSoMany() {
        CHECKS.sentence("the first gives the second so many");
        street("h005;h005;h005;").read("g023;", 1).due("house(0, 2)", 2).due("house(1, 2)", 5).due("house(2, 2)", 8);
        street("h005;h005;h005;").read("g205;", 1).due("house(0, 2)", 10).due("house(2, 2)", 0);
        street("h001;h001;h001;h001;h001;h001;h001;h003;").read("g702;", 1).due("house(7, 2)", 1).due("house(0, 2)", 3);
    }

    private static void twoHousesChangePlaces() {
        CHECKS.sentence("m, two HOUSES (digits): they change places");
        broken("m;", 1);
        broken("m0;", 2);
        broken("m010;", 3);
        Trial t = street("h193;h084;h275;").read("m02;", 1);
        t.due("house(0, 0)", 2).due("house(0, 1)", 7).due("house(0, 2)", 5).due("house(1, 2)", 4);
        t.due("house(2, 0)", 1).due("house(2, 1)", 9).due("house(2, 2)", 3);
        t.read("m20;", 1).due("house(0, 2)", 3).due("house(2, 2)", 5);
        street("h002;h001;h001;h001;h001;h001;h001;h009;").read("m70;", 1).due("house(0, 2)", 9).due("house(7, 2)", 2);
    }

    private static void lastHouseIsNoMore() {
        CHECKS.sentence("u: the last HOUSE is no more.");
        broken("u0;", 1);
        Trial t = street("h003;h004;").read("u;", 1).due("count(0)", 1).due("house(0, 2)", 3).refused("house(1, 2)", -1);
        t.read("u;", 1).due("count(0)", 0).refusedText("u;", -2000);
        t.read("h006;", 1).due("house(0, 2)", 6);
        Trial eight = street(SEVEN + "h002;").read("u;", 1).due("count(0)", 7).read("h003;", 1);
        eight.due("house(7, 2)", 3).due("house(6, 2)", 1);
    }

    private static void numbersMayBeginWith0() {
        CHECKS.sentence("Numbers may begin with 0.");
        street("h000;").due("house(0, 2)", 0);
        street("h0000;").due("house(0, 2)", 0);
        street("h000000;").due("house(0, 2)", 0);
        street("h0007;").due("house(0, 2)", 7);
        street("h000007;").due("house(0, 2)", 7);
        street("h000070;").due("house(0, 2)", 70);
        broken("h0000007;", 7);
        street("h005;h005;").read("g010003;", 1).due("house(1, 2)", 8);
        wrong("g010000;", 0);
    }

    private static void atLeastOneStatement() {
        CHECKS.sentence("At least one STATEMENT.");
        broken("", 0);
        broken(";", 0);
        broken(" ", 0);
        read("r0;", 1);
        nothing().refusedText("", -1000);
    }

    private static void kind1IsTheFirstByteThatCanNotGoOn() {
        CHECKS.sentence("FAULT: kind 1 the place of the first byte with which no STREET can go on");
        for (char letter : "abcdefijklnopqstvwxyzHRGMU0;/: \0\177".toCharArray()) {
            broken(letter + ";", 0);
        }
        broken("h005;x005;", 5);
        broken("h005;h00x;", 8);
        broken("h005;h005x", 9);
        broken("r1;r1;r1;r1x", 11);
        broken("r1;".repeat(33) + "x", 99);
        broken("r1;".repeat(33) + "0", 99);
        street("h005;").putRow(0, 0, 'r', 0x100 + '1', 0x300 + ';').due("street(0)", 1).due("count(1)", 1);
        street("h005;").putRow(0, 0, 'r', '1', ';' - 128).refused("street(0)", -1002);
        street("h005;").putRow(0, 0, 'r', '1' - 128, ';').refused("street(0)", -1001);
        street("h005;").putRow(0, 0, 'u' - 128, ';').refused("street(0)", -1000);
        street("h005;").putRow(0, 0, 'u', ';', 0).refused("street(0)", -1002);
        street("h005;").putRow(0, 0, 'u', ';', -128).refused("street(0)", -1002);
    }

    private static void kind1IsTheSizeIfItEndsTooEarly() {
        CHECKS.sentence("(the size, if it ends too early)");
        for (String text : new String[] {"h009999;", "h001;", "r1;", "g011;", "g010005;", "m01;", "u;"}) {
            for (int size = 0; size < text.length(); size++) {
                broken(text.substring(0, size), size);
                if (size > 0) {
                    broken("r1;" + text.substring(0, size), size + 3);
                }
            }
            read(text, 1);
        }
        broken("r1;".repeat(33) + "u", 100);
        broken("r1;".repeat(32) + "h001", 100);
    }

    private static void kind2IsTheLetterOfTheFirstStatement() {
        CHECKS.sentence("else kind 2 the place of the letter of the first STATEMENT that isn't as told");
        wrong("h801;", 0);
        wrong("h001;h801;", 5);
        wrong("h00001;h801;r9;", 7);
        wrong("r1;r2;g001;", 3);
        wrong("u;u;u;", 4);
        wrong("u;u;u;h801;", 4);
        wrong("r0;".repeat(32) + "r9;", 96);
    }

    private static void aNumberOutOfRange() {
        CHECKS.sentence("a number out of range");
        read("h701;", 1);
        wrong("h801;", 0);
        wrong("h901;", 0);
        read("h791;", 1);
        read("r1;", 1);
        wrong("r2;", 0);
        wrong("r9;", 0);
    }

    private static void noSuchHouse() {
        CHECKS.sentence("no such HOUSE");
        read("g011;", 1);
        read("g101;", 1);
        wrong("g021;", 0);
        wrong("g201;", 0);
        wrong("g091;", 0);
        wrong("g901;", 0);
        read("m01;", 1);
        read("m10;", 1);
        wrong("m02;", 0);
        wrong("m20;", 0);
        wrong("m09;", 0);
        wrong("m90;", 0);
        nothing().refusedText("u;", -2000);
        nothing().refusedText("g011;", -2000);
        nothing().refusedText("m01;", -2000);
        street("h005;").refusedText("g011;", -2000).refusedText("m01;", -2000);
        street(SEVEN + "h001;").refusedText("g081;", -2000).refusedText("m80;", -2000).read("g071;m70;", 2);
        street(SEVEN).refusedText("g071;", -2000).refusedText("m70;", -2000).read("g061;m60;", 2);
    }

    private static void oneTwice() {
        CHECKS.sentence("one twice");
        wrong("g001;", 0);
        wrong("g111;", 0);
        wrong("m00;", 0);
        wrong("m11;", 0);
        street("h005;").refusedText("m00;", -2000).refusedText("g001;", -2000);
    }

    private static void coins0() {
        CHECKS.sentence("coins 0");
        wrong("g010;", 0);
        wrong("g0100;", 0);
        wrong("g010000;", 0);
        read("g011;", 1);
        street("h000;h000;").refusedText("g010;", -2000);
    }

    private static void moreThanThereAre() {
        CHECKS.sentence("more than there are");
        read("g015;", 1);
        wrong("g016;", 0);
        wrong("g019999;", 0);
        wrong("g014;g012;", 5);
        read("g014;g011;", 2);
    }

    private static void moreThanThereIsRoomFor() {
        CHECKS.sentence("or than there is room for");
        street("h005;h009996;").read("g013;", 1).due("house(1, 2)", 9999);
        street("h005;h009996;").refusedText("g014;", -2000).refusedText("g013;g011;", -2005);
        street("h001;h009999;").refusedText("g011;", -2000);
    }

    private static void noRoomForAHouse() {
        CHECKS.sentence("no room for a HOUSE");
        street(SEVEN).read("h002;", 1).due("count(0)", 8).due("house(7, 2)", 2);
        street(SEVEN + "h001;").refusedText("h002;", -2000).refusedText("u;h002;h003;", -2007).read("u;h002;", 2);
        nothing().refusedText(SEVEN + "h001;h001;", -2040);
    }

    private static void minus1000TimesTheKindLessThePlace() {
        CHECKS.sentence("-1000 times the kind less the place.");
        broken("x", 0);
        broken("ux", 1);
        broken("r1;".repeat(33) + "r", 100);
        wrong("r9;", 0);
        wrong("u;r9;", 2);
        street("h005;").refusedText("r1;".repeat(32) + "u;u;", -2098);
    }

    private static void withoutFaultAllComesWithOneNothing() {
        CHECKS.sentence("Without FAULT all of it comes; with one nothing.");
        Trial t = street("h005;h006;");
        t.refusedText("h007;r1;g012;m01;u;x", -1019);
        t.refusedText("h007;r1;g012;m01;u;h801;", -2019);
        t.refusedText("u;u;u;", -2004);
        t.read("h007;r1;g012;m01;u;", 5);
        t.due("count(0)", 2).due("count(1)", 1).due("house(0, 2)", 8).due("house(1, 2)", 3);
    }
}
