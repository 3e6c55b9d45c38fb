/** Promises 17 to 24: houses moved, what fits, gifts, taxes, thefts, told purses. */
public final class InMindTest {
    private static final Checks CHECKS = new Checks();
    private static final int LOW = Integer.MIN_VALUE;
    private static final int HIGH = Integer.MAX_VALUE;
    private static final String EIGHT = "h001;h002;h003;h004;h005;h006;h007;h008;";

    public static void main(String[] args) {
        change();
        wedding();
        worth();
        fitting();
        givenRefusals();
        given();
        tax();
        seeded();
        judge();
        CHECKS.end();
    }

    private static void due(String call, long got, long want) {
        CHECKS.due(call, got, want);
    }

    private static void change() {
        CHECKS.promise("17 change");
        TwiceAsRich x = Calls.street("h001;h004;h002;");
        due("the best", x.change(0), 12);
        due("breaches then", x.change(1), 0);
        due("nobody moved", x.house(1, 2), 4);
        for (int what : new int[] {-1, 2, LOW, HIGH}) {
            due("change(" + what + ")", x.change(what), -1);
        }
        x = Calls.street("h001;h008;h004;");
        due("none has fewer than now", x.change(0), -4);
        due("none has fewer than now", x.change(1), -4);
        x = Calls.street("h001;h004;h004;h001;");
        due("of several the least", x.change(0), 2);
        due("breaches then", x.change(1), 1);
        x = Calls.street("h301;h001;h005;");
        due("kinds move, too", x.change(0), 1);
        due("breaches then", x.change(1), 0);
        x = Calls.street("h001;h002;h004;h002;r1;");
        due("lawful round", x.change(0), -4);
        x = Calls.street("h001;h002;h002;h004;r1;");
        due("round", x.change(0), 1);
        due("round, breaches then", x.change(1), 0);
        due("no houses", new TwiceAsRich().change(0), -4);
        due("one house", Calls.street("h001;").change(0), -4);
    }

    private static void wedding() {
        CHECKS.promise("18 wedding");
        TwiceAsRich x = Calls.street("h001;h004;h006;");
        due("wedding(0)", x.wedding(0), 0);
        due("wedding(1)", x.wedding(1), 1);
        for (int house : new int[] {-1, 2, 3, LOW, HIGH}) {
            due("wedding(" + house + ")", x.wedding(house), -1);
        }
        due("all as it was", x.count(0) * 1000 + x.count(2), 3011);
        x.round(1);
        for (int house : new int[] {-1, 2, 3, LOW, HIGH}) {
            due("round, wedding(" + house + ")", x.wedding(house), -1);
        }
        due("round, wedding(0)", x.wedding(0), 0);
        due("round, wedding(1)", x.wedding(1), 1);
        due("two are never round", Calls.street("h001;h001;r1;").wedding(1), -1);
        due("two become one", Calls.street("h001;h0050;").wedding(0), 0);
        due("the first one's kind", Calls.street("h0050;h301;h001;").wedding(0), 1);
        due("the first one's kind", Calls.street("h301;h0050;h001;").wedding(0), 0);
        due("the first one's figure", Calls.street("h1405;h005;h003;").wedding(0), 0);
        due("the first one's figure", Calls.street("h1305;h405;h003;").wedding(0), 1);
        due("9999 at most", Calls.street("h009999;h009999;h005000;").wedding(0), 0);
        x = Calls.street("h001;h001;h001;h008;r1;");
        due("four become three, round", x.wedding(0), 2);
        due("none is behind the last of four, round", x.wedding(3), -1);
        x = Calls.street("h001;h001;h008;r1;");
        due("three become two", x.wedding(0), 1);
        due("none is behind the last of three, round", x.wedding(2), -1);
        x = Calls.street(EIGHT + "r1;");
        due("the last but one of eight, round", x.wedding(6), 2);
        due("none is behind the last of eight, round", x.wedding(7), -1);
        due("none is behind one alone, round", Calls.street("h005;r1;").wedding(0), -1);
        due("no houses", new TwiceAsRich().wedding(0), -1);
    }

    private static void worth() {
        CHECKS.promise("19 worth");
        TwiceAsRich x = Calls.street("h005;h0010;");
        due("worth(0, 3)", x.worth(0, 3), -14);
        due("worth(0, 9999)", x.worth(0, 9999), 9979);
        due("worth(0, 0)", x.worth(0, 0), -20);
        due("worth(1, 3)", x.worth(1, 3), -4);
        due("worth(1, 9999)", x.worth(1, 9999), 0);
        for (int house : new int[] {-1, 2, LOW, HIGH}) {
            due("worth(" + house + ", 3)", x.worth(house, 3), -1000000001);
        }
        for (int purse : new int[] {-1, 10000, LOW, HIGH}) {
            due("worth(0, " + purse + ")", x.worth(0, purse), -1000000001);
        }
        due("all as it was", x.count(0), 2);
        x.round(1);
        due("a third makes it round", x.worth(0, 9999), 0);
        due("a third makes it round", x.worth(1, 3), -4);
        x = Calls.street("h005;");
        due("one alone", x.worth(0, 3), -9993);
        due("one alone", x.worth(0, 9999), 0);
        due("one alone, kept from being round", Calls.street("h005;r1;").worth(0, 3), -9993);
        x = Calls.street("h002;h004;h003;r1;");
        due("behind the last, ahead of the first", x.worth(2, 1), -2);
        due("behind the last, ahead of the first", x.worth(2, 9), 4);
        x = Calls.street(EIGHT);
        due("no room is needed", x.worth(0, 9), 14);
        due("no room is needed", x.worth(7, 1), -12);
        due("houses", x.count(0), 8);
        due("of a wall", Calls.street("h301;").worth(0, 0), 0);
        due("of twins", Calls.street("h6201;").worth(0, 5), 24 - 9999);
    }

    private static void fitting() {
        CHECKS.promise("20 fitting");
        TwiceAsRich x = Calls.street("h004;h0099;h006;");
        due("how many", x.fitting(1, 0), 6);
        due("the least", x.fitting(1, 1), 3);
        due("the greatest", x.fitting(1, 2), 8);
        due("another's breaches", x.fitting(0, 0), 0);
        due("another's breaches, the least", x.fitting(0, 1), -4);
        due("another's breaches, the greatest", x.fitting(0, 2), -4);
        for (int what : new int[] {-1, 3, LOW, HIGH}) {
            due("fitting(0, " + what + ")", x.fitting(0, what), -1);
        }
        for (int house : new int[] {-1, 3, LOW, HIGH}) {
            due("fitting(" + house + ", 0)", x.fitting(house, 0), -1);
        }
        due("purse as it was", x.house(1, 2), 99);
        x = Calls.street("h009999;");
        due("one alone", x.fitting(0, 0), 100);
        due("one alone, the least", x.fitting(0, 1), 0);
        due("one alone, the greatest", x.fitting(0, 2), 99);
        x = Calls.street("h0050;h001;");
        due("from half on", x.fitting(1, 0), 75);
        due("from half on, the least", x.fitting(1, 1), 25);
        due("up to 99", x.fitting(1, 2), 99);
        due("beside who has none", Calls.street("h000;h001;").fitting(1, 2), 0);
        x = Calls.street("h004;h005;h006;r1;");
        due("round, how many", x.fitting(0, 0), 8);
        due("round, the least", x.fitting(0, 1), 3);
        due("round, the greatest", x.fitting(0, 2), 10);
    }

    private static void givenRefusals() {
        CHECKS.promise("21 given, refusals");
        TwiceAsRich x = Calls.street("h005;h005;h005;");
        due("given(-1, 0)", x.given(-1, 0), -1);
        due("given(8, 0)", x.given(8, 0), -1);
        due("nothing held, what -1", x.given(0, -1), -1);
        due("nothing held, what 2", x.given(0, 2), -1);
        due("nothing held", x.given(0, 0), -11);
        x.keep(0, 1, 0, 0);
        due("a house", x.given(0, 0), -12);
        Calls.putRow(x, 0, Calls.BYTES, 0, 1, 2);
        due("bytes", x.given(0, 0), -12);
        Calls.putRow(x, 0, Calls.INTS, 0, 1, 2);
        due("ints", x.given(0, 1), -12);
        int[][] wrong = {
            {0, 1}, {0}, {0, 1, 2, 0}, {3, 1, 2}, {-1, 1, 2}, {0, 3, 2}, {0, -1, 2}, {1, 1, 2}, {0, 1, 0},
            {0, 1, -1}, {0, 1, 10000}, {0, 1, 1, 0, 1, 0}, new int[27],
        };
        for (int[] gifts : wrong) {
            Calls.putRow(x, 0, Calls.SHORTS, gifts);
            due(gifts.length + " elements, not as told", x.given(0, 0), -13);
            due(gifts.length + " elements, not as told", x.given(0, 1), -13);
            due(gifts.length + " elements, not as told, what 2", x.given(0, 2), -1);
        }
        int[] nine = new int[27];
        for (int i = 0; i < 27; i += 3) {
            nine[i + 1] = 1;
            nine[i + 2] = 1;
        }
        Calls.putRow(x, 0, Calls.SHORTS, nine);
        due("nine gifts", x.given(0, 1), -13);
    }

    private static void given() {
        CHECKS.promise("21 given");
        TwiceAsRich x = Calls.street("h002;h009;h009990;");
        int[] gifts = {
            0, 1, 3, // left out: 2 are there
            1, 0, 9, // 11, 0
            0, 1, 11, // 0, 11
            1, 2, 10, // left out: 9990 and 10
            1, 2, 9, // 2, 9999
            2, 0, 5000, // 5000, 4999
            0, 1, 2000, // 3000, 2002
            2, 1, 9999, // left out
        };
        Calls.putRow(x, 0, Calls.SHORTS, gifts);
        due("how many", x.given(0, 1), 5);
        due("breaches then", x.given(0, 0), 1);
        due("all as it was", x.house(0, 2) * 10 + x.house(1, 2), 29);
        due("the row stays", Calls.element(x, 0, 23), 9999);
        x.row(0, 1, 0);
        due("no gifts", x.given(0, 1), 0);
        due("no gifts, breaches", x.given(0, 0), 2);
        x = new TwiceAsRich();
        x.row(0, 1, 3);
        due("no houses", x.given(0, 0), -13);
    }

    private static void tax() {
        CHECKS.promise("22 tax");
        TwiceAsRich x = Calls.street("h002;h309999;h107;");
        due("tax(0)", x.tax(0), 0);
        due("tax(1)", x.tax(1), 3);
        due("tax(5)", x.tax(5), 12);
        due("tax(7)", x.tax(7), 16);
        due("tax(9999)", x.tax(9999), 10008);
        for (int level : new int[] {-1, 10000, LOW, HIGH}) {
            due("tax(" + level + ")", x.tax(level), -1);
        }
        due("all as it was", x.count(2), 10008);
        due("no houses", new TwiceAsRich().tax(5), 0);
    }

    private static void seeded() {
        CHECKS.promise("23 seeded");
        TwiceAsRich x = new TwiceAsRich();
        for (int n : new int[] {0, -1, 41, LOW, HIGH}) {
            due("no houses, n " + n, x.seeded(n, 1), -1);
        }
        due("no houses", x.seeded(1, 1), -3);
        x = Calls.street("h009999;");
        for (int n : new int[] {0, -1, 41, LOW, HIGH}) {
            due("n " + n, x.seeded(n, 1), -1);
        }
        due("one alone", x.seeded(40, LOW), 40);
        due("one alone, a night", x.seeded(1, HIGH), 1);
        x = Calls.street("h000;h000;r1;");
        due("nobody has any", x.seeded(40, 7), 40);
        for (int seed : new int[] {0, 1, 2, 3, 5, 8, -1, -77, LOW, HIGH, 123456789}) {
            for (int n = 1; n <= 40; n += 3) {
                due("two houses, n " + n + ", seed " + seed, Calls.street("h004;h003;").seeded(n, seed), twoHouses(4, 3, n, seed));
                due("full purses, n " + n + ", seed " + seed, Calls.street("h005001;h009998;r1;").seeded(n, seed), twoHouses(5001, 9998, n, seed));
            }
        }
        x = Calls.street("h004;h003;");
        x.seeded(40, 5);
        due("all as it was", x.house(0, 2) * 10 + x.house(1, 2), 43);
    }

    // The same thefts, with the draws reckoned in longs.
    private static int twoHouses(int first, int second, int nights, int seed) {
        long z = seed & 0xffffffffL;
        int lawful = 0;
        for (int night = 0; night < nights; night++) {
            z = (z * 1103515245L + 12345L) % (1L << 32);
            long thief = (z % (1L << 31) >> 16) % 2;
            z = (z * 1103515245L + 12345L) % (1L << 32);
            long side = (z % (1L << 31) >> 16) % 2;
            if (thief == 0 && side == 1 && second > 0 && first < 9999) {
                first++;
                second--;
            } else if (thief == 1 && side == 0 && first > 0 && second < 9999) {
                first--;
                second++;
            }
            if (first <= 2 * second && second <= 2 * first) {
                lawful++;
            }
        }
        return lawful;
    }

    private static void judged(String street, int sort, int want, int... purses) {
        TwiceAsRich x = street.isEmpty() ? new TwiceAsRich() : Calls.street(street);
        Calls.putRow(x, 0, sort, purses);
        due("'" + street + "' by " + purses.length + " of sort " + sort, x.judge(0), want);
    }

    private static void judge() {
        CHECKS.promise("24 judge");
        TwiceAsRich x = Calls.street("h002;");
        due("judge(-1)", x.judge(-1), -1);
        due("judge(8)", x.judge(8), -1);
        due("nothing held", x.judge(0), -11);
        x.keep(0, 1, 3, 0);
        due("a house", x.judge(0), -12);
        for (int sort = 0; sort < 3; sort++) {
            judged("", sort, -4);
            judged("", sort, 0, 5);
            judged("h002;h004;h006;", sort, -4, 2, 4, 6);
            judged("h002;h004;h006;", sort, 1, 2, 5, 6);
            judged("h002;h004;h006;", sort, 0, 3, 5, 6);
            judged("h002;h004;h006;", sort, 2, 2, 4);
            judged("h002;h004;h006;", sort, 1, 2, 5);
            judged("h002;h004;h006;", sort, 0);
            judged("h002;h004;h006;", sort, 3, 2, 4, 6, 0);
            judged("h002;h004;h006;", sort, 2, 2, 4, 7, 0);
        }
        judged("h002;h004;h006;", Calls.BYTES, -4, -128, 4, -128);
        judged("h002;h004;h006;", Calls.BYTES, 3, 2, 4, 6, -128);
        judged("h002;h004;h006;", Calls.BYTES, 2, -128, -128);
        judged("h002;h004;h006;", Calls.SHORTS, -4, -32768, 4, -32768);
        judged("h002;h004;h006;", Calls.SHORTS, 2, -32768, 4, -128);
        judged("h002;h004;h006;", Calls.INTS, -4, LOW, LOW, LOW);
        judged("h002;h004;h006;", Calls.INTS, 1, LOW, -32768, LOW);
        judged("h00300;", Calls.BYTES, 0, 300);
        judged("h00300;", Calls.SHORTS, -4, 300);
        Calls.putRow(x, 0, Calls.BYTES, 2);
        x.judge(0);
        due("the row stays", Calls.element(x, 0, 0), 2);
    }
}
