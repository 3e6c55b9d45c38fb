/** Promises 1 to 7: a new object, streets as texts, houses, who comes, round, gifts, weeks. */
public final class StreetsTest {
    private static final Checks CHECKS = new Checks();
    private static final int LOW = Integer.MIN_VALUE;
    private static final int HIGH = Integer.MAX_VALUE;
    private static final String EIGHT = "h001;h001;h001;h001;h001;h001;h001;h001;";

    public static void main(String[] args) {
        newObject();
        streetRefusals();
        streetComes();
        streetBroken();
        streetWrong();
        house();
        comes();
        round();
        give();
        weeks();
        CHECKS.end();
    }

    private static void due(String call, long got, long want) {
        CHECKS.due(call, got, want);
    }

    private static void newObject() {
        CHECKS.promise("1 a new object");
        TwiceAsRich x = new TwiceAsRich();
        for (int what = 0; what < 4; what++) {
            due("count(" + what + ")", x.count(what), 0);
        }
        due("house(0, 0)", x.house(0, 0), -1);
        due("lawful()", x.lawful(), 1);
        due("restore()", x.restore(), -3);
        for (int d = 0; d < 8; d++) {
            due("fee(" + d + ")", x.fee(d), -11);
            due("judge(" + d + ")", x.judge(d), -11);
        }
        due("another's count(0)", Calls.street("h0005;").count(0), 1);
        due("count(0) beside another", x.count(0), 0);
    }

    private static void streetRefusals() {
        CHECKS.promise("2 street, refusals");
        TwiceAsRich x = new TwiceAsRich();
        for (int d : new int[] {-1, 8, LOW, HIGH}) {
            due("street(" + d + ")", x.street(d), -1);
        }
        due("street of nothing", x.street(0), -11);
        x.keep(0, 1, 0, 0);
        due("street of a house", x.street(0), -12);
        Calls.putRow(x, 0, Calls.SHORTS, 'r', '1', ';');
        due("street of shorts", x.street(0), -12);
        Calls.putRow(x, 0, Calls.INTS, 'r', '1', ';');
        due("street of ints", x.street(0), -12);
        due("nothing came", x.count(1), 0);
    }

    private static void streetComes() {
        CHECKS.promise("2 street, what comes");
        TwiceAsRich x = new TwiceAsRich();
        due("two houses", Calls.read(x, "h1907;h700042;"), 2);
        due("kind", x.house(0, 0), 1);
        due("figure", x.house(0, 1), 9);
        due("purse", x.house(0, 2), 7);
        due("the other's kind", x.house(1, 0), 7);
        due("the other's figure", x.house(1, 1), 0);
        due("the other's purse", x.house(1, 2), 42);
        due("the row's first stays", Calls.element(x, 7, 0), 'h');
        due("the row's last stays", Calls.element(x, 7, 13), ';');
        due("one more, round, a gift of too much", Calls.read(x, "h0100;r1;g1099;m12;"), -2009);
        due("nothing of it came", x.count(0) + x.count(1), 2);
        due("one more, round, gifts, places changed", Calls.read(x, "h0100;r1;g1010;g0107;m12;"), 5);
        due("houses", x.count(0), 3);
        due("round", x.count(1), 1);
        due("who got 10 and gave 7", x.house(0, 2), 10);
        due("who changed places, kind", x.house(2, 0), 7);
        due("who changed places, purse", x.house(2, 2), 39);
        due("the other who did, kind", x.house(1, 0), 0);
        due("the other who did, figure", x.house(1, 1), 1);
        due("the other who did, purse", x.house(1, 2), 0);
        due("the last is no more", Calls.read(x, "u;"), 1);
        due("houses left", x.count(0), 2);
        due("the one ahead stays", x.house(1, 1), 1);
        due("not round", Calls.read(x, "r0;"), 1);
        due("round", x.count(1), 0);
        due("a text of 100 bytes", Calls.read(x, "r1;r0;".repeat(16) + "u;u;"), 34);
        due("houses behind it", x.count(0), 0);
        due("a row read in part is longer", Calls.read(x, "h001;"), 1);
        due("eight, then room for one", Calls.read(x, EIGHT.substring(5) + "u;h002;"), 9);
        due("houses", x.count(0), 8);
        due("the last", x.house(7, 2), 2);
        due("a gift up to 9999", Calls.read(x, "u;u;h009000;h001998;g76998;g761;"), 6);
        due("purse", x.house(6, 2), 9999);
        due("the giver's", x.house(7, 2), 999);
        due("all of a purse", Calls.read(x, "g750999;"), 1);
        due("the giver's", x.house(7, 2), 0);
    }

    private static void broken(String text, int place) {
        TwiceAsRich x = Calls.street("h003;");
        String before = x.count(0) + " " + x.count(1) + " " + x.count(2);
        due("'" + text + "'", Calls.read(x, text), -1000 - place);
        due("unchanged by '" + text + "'", before.equals(x.count(0) + " " + x.count(1) + " " + x.count(2)) ? 1 : 0, 1);
    }

    private static void streetBroken() {
        CHECKS.promise("2 street, fault of kind 1");
        broken("", 0);
        broken(";", 0);
        broken("x", 0);
        broken("H001;", 0);
        broken("0", 0);
        broken("h", 1);
        broken("h;", 1);
        broken("hx", 1);
        broken("h0", 2);
        broken("h0;", 2);
        broken("h00", 3);
        broken("h00;", 3);
        broken("h00x", 3);
        broken("h001", 4);
        broken("h001x", 4);
        broken("h001234", 7);
        broken("h0012345;", 7);
        broken("h001;x", 5);
        broken("h001;;", 5);
        broken("h001; h001;", 5);
        broken("h001;h", 6);
        broken("r;", 1);
        broken("r1", 2);
        broken("r11;", 2);
        broken("g;", 1);
        broken("g0;", 2);
        broken("g01;", 3);
        broken("g011", 4);
        broken("g0112345;", 7);
        broken("m;", 1);
        broken("m0;", 2);
        broken("m01", 3);
        broken("m012;", 3);
        broken("u", 1);
        broken("u1;", 1);
        broken("u;u;u;x", 6);
        broken("h801;r9;g00;", 11);
        broken("r1;".repeat(33) + "r", 100);
        TwiceAsRich x = new TwiceAsRich();
        Calls.putRow(x, 0, Calls.BYTES, 'r', '1', ';' - 256, -1);
        due("a byte below 0 behind a statement", x.street(0), -1003);
        Calls.putRow(x, 0, Calls.BYTES, 'r', -1, ';');
        due("a byte below 0", x.street(0), -1001);
        Calls.putRow(x, 0, Calls.BYTES, 'r', '1', 0);
        due("a byte 0", x.street(0), -1002);
        Calls.putRow(x, 0, Calls.BYTES, 'u', ';', 'u', '/', ';');
        due("a byte below the digits", x.street(0), -1003);
        Calls.putRow(x, 0, Calls.BYTES, 'r', ':', ';');
        due("a byte above the digits", x.street(0), -1001);
    }

    private static void wrong(String first, String text, int place) {
        TwiceAsRich x = Calls.street(first);
        String before = Calls.all(x);
        Calls.putText(x, 7, text);
        due("behind '" + first + "' '" + text + "'", x.street(7), -2000 - place);
        Calls.putText(x, 7, first);
        due("unchanged by '" + text + "'", before.equals(Calls.all(x)) ? 1 : 0, 1);
    }

    private static void streetWrong() {
        CHECKS.promise("2 street, fault of kind 2");
        wrong("r1;", "h801;", 0);
        wrong("r1;", "h901;", 0);
        wrong("r1;", "h001;h801;h901;", 5);
        wrong(EIGHT, "h001;", 0);
        wrong("h001;", "r1;" + EIGHT, 38);
        wrong("r1;", "r2;", 0);
        wrong("r1;", "r0;r9;", 3);
        wrong("r0;", "u;", 0);
        wrong("h001;", "u;u;", 2);
        wrong("h005;h005;", "g021;", 0);
        wrong("h005;h005;", "g201;", 0);
        wrong("h005;h005;", "g001;", 0);
        wrong("h005;h005;", "g010;", 0);
        wrong("h005;h005;", "g010000;", 0);
        wrong("h005;h005;", "g016;", 0);
        wrong("h005;h005;", "g015;g011;", 5);
        wrong("h005;h009995;", "r1;g015;", 3);
        wrong("h005;h005;", "m00;", 0);
        wrong("h005;h005;", "m02;", 0);
        wrong("h005;h005;", "m20;", 0);
        wrong("h005;h005;", "u;m01;", 2);
        wrong("r0;", "u;r9;h801;", 0);
    }

    private static void house() {
        CHECKS.promise("3 house");
        int[] shows = {25, 25, 22, -4, 12, 25, 25, 25};
        int[] most = {20, 23, 20, 9999, 22, 20, 46, 9999};
        int[] earns = {2, 5, 1, 0, 4, 0, 10, 3};
        for (int k = 0; k < 8; k++) {
            TwiceAsRich x = Calls.street("h" + k + "325;h0010;");
            due("kind " + k, x.house(0, 0), k);
            due("figure of kind " + k, x.house(0, 1), 3);
            due("purse of kind " + k, x.house(0, 2), 25);
            due("kind " + k + " shows", x.house(0, 3), shows[k]);
            due("most of kind " + k, x.house(0, 4), most[k]);
            due("kind " + k + " earns", x.house(0, 5), earns[k]);
            int lookedAt = shows[k] == -4 ? 9999 : 2 * shows[k];
            due("most of a house beside kind " + k, x.house(1, 4), lookedAt);
            for (int what : new int[] {-1, 6, LOW, HIGH}) {
                due("house(0, " + what + ")", x.house(0, what), -1);
            }
        }
        TwiceAsRich x = Calls.street("h401;h000;h000;h009999;h699999;h109999;h0001;");
        due("most of a miser, 0 at least", x.house(0, 4), 0);
        due("most of a house beside none with coins", x.house(1, 4), 0);
        due("most is 9999 at most, twins", x.house(4, 4), 9999);
        due("most is the least of two", x.house(5, 4), 2);
        due("most of the last in a row", x.house(6, 4), 9999);
        x.round(1);
        due("most of the last in a round", x.house(6, 4), 0);
        due("house(7, 2)", x.house(7, 2), -1);
        due("house(-1, 2)", x.house(-1, 2), -1);
        due("house(low, 2)", x.house(LOW, 2), -1);
        due("house(high, 2)", x.house(HIGH, 2), -1);
        due("most of one alone", Calls.street("h005;").house(0, 4), 9999);
        due("most of one alone, round", Calls.street("h005;r1;").house(0, 4), 9999);
        due("most beside a wall", Calls.street("h005;h305;").house(0, 4), 9999);
        due("a wall's purse is not looked at, whatever it is", Calls.street("h305;").house(0, 3), -4);
        due("priest's tenths are cut", Calls.street("h2019;").house(0, 3), 17);
        due("beggar's figure comes behind the cut", Calls.street("h5919;").house(0, 3), 26);
        due("a priest with 9999", Calls.street("h209999;").house(0, 3), 8999);
    }

    private static void comes() {
        CHECKS.promise("4 comes");
        TwiceAsRich x = new TwiceAsRich();
        due("comes(-1, 0)", x.comes(-1, 0), -1);
        due("comes(8, 0)", x.comes(8, 0), -1);
        due("purse below 0, ahead of nothing held", x.comes(0, -1), -1);
        due("purse above 9999, ahead of nothing held", x.comes(0, 10000), -1);
        due("nothing held", x.comes(0, 0), -11);
        x.row(1, 0, 3);
        due("a row", x.comes(1, 9), -12);
        x.keep(0, 1, 6, 4);
        for (int i = 0; i < 8; i++) {
            due("number of one more", x.comes(0, i == 0 ? 9999 : i - 1), i);
        }
        due("no room", x.comes(0, 5), -2);
        due("no such purse, ahead of no room", x.comes(0, 10000), -1);
        due("nothing held, ahead of no room", x.comes(2, 5), -11);
        due("a row, ahead of no room", x.comes(1, 5), -12);
        due("houses", x.count(0), 8);
        due("kind", x.house(7, 0), 6);
        due("figure", x.house(7, 1), 4);
        due("purse", x.house(7, 2), 6);
        due("the first one's purse", x.house(0, 2), 9999);
        due("the shelf still holds it", x.fee(0), 21);
        x.keep(0, 1, 0, 0);
        due("who came stays as it was", x.house(0, 0), 6);
    }

    private static void round() {
        CHECKS.promise("5 round");
        TwiceAsRich x = new TwiceAsRich();
        due("round(1)", x.round(1), 0);
        due("round(1) again", x.round(1), 1);
        for (int v : new int[] {-1, 2, LOW, HIGH}) {
            due("round(" + v + ")", x.round(v), -1);
        }
        due("count(1)", x.count(1), 1);
        due("round(0)", x.round(0), 1);
        due("count(1)", x.count(1), 0);
        due("round(1)", x.round(1), 0);
    }

    private static void give() {
        CHECKS.promise("6 give");
        TwiceAsRich x = Calls.street("h0012;h009990;h003;");
        due("one with itself", x.give(1, 1, 1), -1);
        due("no such one", x.give(-1, 1, 1), -1);
        due("no such one", x.give(3, 1, 1), -1);
        due("no such other", x.give(1, -1, 1), -1);
        due("no such other", x.give(1, 3, 1), -1);
        due("no coins", x.give(0, 2, 0), -1);
        due("coins below 0", x.give(0, 2, LOW), -1);
        due("more than there are", x.give(0, 2, 13), -3);
        due("more than there are, and than there is room for", x.give(0, 1, 13), -3);
        due("far more than there are", x.give(0, 1, HIGH), -3);
        due("more than there is room for", x.give(0, 1, 10), -2);
        due("all as it was", x.house(0, 2) * 100000 + x.house(1, 2) * 10 + x.house(2, 2), 1299903);
        due("up to 9999", x.give(0, 1, 9), 3);
        due("purse of who got them", x.house(1, 2), 9999);
        due("all there are, to one not beside", x.give(0, 2, 3), 0);
        due("purse of who got them", x.house(2, 2), 6);
    }

    private static void weeks() {
        CHECKS.promise("7 weeks");
        TwiceAsRich x = Calls.street("h0320;h1320;h2320;h3320;h4320;h5320;h6320;h7320;");
        due("a week", x.weeks(1), 185);
        int[] purses = {22, 25, 21, 20, 24, 20, 30, 23};
        for (int i = 0; i < 8; i++) {
            due("purse " + i, x.house(i, 2), purses[i]);
        }
        due("98 weeks", x.weeks(98), 185 + 98 * 25);
        for (int n : new int[] {0, -1, 100, LOW, HIGH}) {
            due("weeks(" + n + ")", x.weeks(n), -1);
        }
        due("coins", x.count(2), 185 + 98 * 25);
        due("9999 at most", Calls.street("h009900;h309999;h109999;").weeks(99), 3 * 9999);
        due("up to 9999 coins", Calls.street("h009801;").weeks(99), 9999);
        due("without houses", new TwiceAsRich().weeks(99), 0);
    }
}
