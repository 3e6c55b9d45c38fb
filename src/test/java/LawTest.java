/** Promises 8 to 16: lawful or not, breaches, who holds whom down, who may have more, partings, gifts. */
public final class LawTest {
    private static final Checks CHECKS = new Checks();
    private static final int LOW = Integer.MIN_VALUE;
    private static final int HIGH = Integer.MAX_VALUE;
    private static final String SIX_WALLS = "h301;h301;h301;h301;h301;h301;";

    public static void main(String[] args) {
        lawful();
        breaches();
        held();
        free();
        partings();
        uneven();
        richest();
        hands();
        any();
        CHECKS.end();
    }

    private static void due(String call, long got, long want) {
        CHECKS.due(call, got, want);
    }

    private static void lawful() {
        CHECKS.promise("8 lawful");
        due("no houses", new TwiceAsRich().lawful(), 1);
        due("one house", Calls.street("h009999;").lawful(), 1);
        due("just twice", Calls.street("h003;h006;").lawful(), 1);
        due("one more than twice", Calls.street("h003;h007;").lawful(), 0);
        due("one more than twice, the other way", Calls.street("h007;h003;").lawful(), 0);
        due("all in a row", Calls.street("h001;h002;h004;h008;h0016;").lawful(), 1);
        due("the same, round", Calls.street("h001;h002;h004;h008;h0016;r1;").lawful(), 0);
        due("nobody has any", Calls.street("h000;h000;r1;").lawful(), 1);
        due("only one has any", Calls.street("h000;h001;").lawful(), 0);
        due("a wall is not looked at", Calls.street("h0099;h301;h0099;").lawful(), 1);
        due("a wall may have all", Calls.street("h001;h309999;").lawful(), 1);
        due("a blind one is looked at", Calls.street("h0099;h701;").lawful(), 0);
        due("an heir and figure", Calls.street("h1713;h003;").lawful(), 1);
        due("an heir and more than figure", Calls.street("h1714;h003;").lawful(), 0);
        due("beside a priest of 10 up to 18", Calls.street("h2010;h0018;").lawful(), 1);
        due("beside a priest of 10 no 19", Calls.street("h2010;h0019;").lawful(), 0);
        due("beside a beggar of 10, figure 3, up to 24", Calls.street("h5310;h0024;").lawful(), 1);
        due("beside a beggar of 10, figure 3, no 25", Calls.street("h5310;h0025;").lawful(), 0);
        due("a miser of figure 0 beside 6 up to 11", Calls.street("h4011;h006;").lawful(), 1);
        due("a miser of figure 0 beside 6 no 12", Calls.street("h4012;h006;").lawful(), 0);
        due("twins of figure 2 beside 5 up to 24", Calls.street("h6224;h005;").lawful(), 1);
        due("twins of figure 2 beside 5 no 25", Calls.street("h6225;h005;").lawful(), 0);
        due("by both beside it", Calls.street("h6918;h009;h6954;").lawful(), 1);
        due("by both beside it, one more", Calls.street("h6918;h009;h6955;").lawful(), 0);
    }

    private static void breaches() {
        CHECKS.promise("9 breaches");
        TwiceAsRich x = Calls.street("h001;h002;h005;");
        due("breaches(-1)", x.breaches(-1), 1);
        due("breaches(0)", x.breaches(0), 0);
        due("breaches(1)", x.breaches(1), 0);
        due("breaches(2)", x.breaches(2), 1);
        for (int house : new int[] {-2, 3, LOW, HIGH}) {
            due("breaches(" + house + ")", x.breaches(house), -1);
        }
        x.round(1);
        due("round, breaches(-1)", x.breaches(-1), 2);
        due("round, breaches(2)", x.breaches(2), 2);
        due("round, breaches(0)", x.breaches(0), 0);
        due("two houses are never round", Calls.street("h001;h003;r1;").breaches(-1), 1);
        due("one house", Calls.street("h005;r1;").breaches(0), 0);
        due("by both beside it", Calls.street("h001;h003;h001;").breaches(1), 2);
        due("no houses, all", new TwiceAsRich().breaches(-1), 0);
        due("no houses, the first", new TwiceAsRich().breaches(0), -1);
    }

    private static void held() {
        CHECKS.promise("10 held");
        TwiceAsRich x = Calls.street("h001;h002;h005;");
        due("held(0)", x.held(0), 0);
        due("held(1)", x.held(1), 1);
        due("held(2)", x.held(2), 2);
        for (int house : new int[] {-1, 3, LOW, HIGH}) {
            due("held(" + house + ")", x.held(house), -1);
        }
        x.round(1);
        due("round, held(0)", x.held(0), 0);
        due("round, held(1)", x.held(1), 1);
        due("round, held(2)", x.held(2), 3);
        due("one alone", Calls.street("h009999;").held(0), 0);
        due("a wall of 9999 has no more by any", Calls.street("h309999;h005;").held(0), 2);
        due("a wall of 9998 may have one more", Calls.street("h309998;h005;").held(0), 0);
        due("a wall of 9999 beside a wall", Calls.street("h309999;h305;").held(0), 0);
        due("a house of 9999 beside 9999", Calls.street("h009999;h009999;").held(0), 0);
        due("a wall does not hold down", Calls.street("h005;h300;").held(0), 0);
    }

    private static void free() {
        CHECKS.promise("11 free");
        TwiceAsRich x = Calls.street("h001;h002;h005;");
        due("free()", x.free(), 1);
        x.round(1);
        due("round, free()", x.free(), 1);
        due("no houses", new TwiceAsRich().free(), 0);
        due("9999 at most", Calls.street("h009999;h009999;").free(), 0);
        due("9998 may have one more", Calls.street("h009998;h009999;").free(), 1);
        due("one alone", Calls.street("h005;").free(), 1);
        due("one alone with 9999", Calls.street("h009999;").free(), 0);
        due("another's breach does not matter", Calls.street("h005;h0050;").free(), 1);
        due("walls", Calls.street("h309999;h305;h008;").free(), 6);
        due("up to the most", Calls.street("h003;h005;").free(), 3);
        due("at the most", Calls.street("h003;h006;").free(), 1);
        due("beside who has none", Calls.street("h000;h000;").free(), 0);
        due("all of eight", Calls.street("h005;h005;h005;h005;h005;h005;h005;h005;").free(), 255);
    }

    private static void partings() {
        CHECKS.promise("12 partings");
        TwiceAsRich x = new TwiceAsRich();
        due("no houses, no coins", x.partings(0), 1);
        due("no houses, a coin", x.partings(1), 0);
        x = Calls.street("h009999;");
        due("one house, none", x.partings(0), 0);
        due("one house", x.partings(20), 1);
        for (int n : new int[] {-1, 21, LOW, HIGH}) {
            due("partings(" + n + ")", x.partings(n), -1);
        }
        x = Calls.street("h001;h009999;");
        due("two houses, 1", x.partings(1), 0);
        due("two houses, 2", x.partings(2), 1);
        due("two houses, 6", x.partings(6), 3);
        due("two houses, 20", x.partings(20), 7);
        due("purses as they were", x.house(1, 2), 9999);
        x = Calls.street("h001;h009999;h009;");
        due("three houses, 6", x.partings(6), 3);
        x.round(1);
        due("three houses, round, 6", x.partings(6), 1);
        due("a wall and a house, 5", Calls.street("h301;h001;").partings(5), 4);
        due("two misers of figure 0", Calls.street("h401;h401;").partings(20), 0);
        due("a miser and a house, 20", Calls.street("h401;h001;").partings(20), 4);
        x = Calls.street(SIX_WALLS);
        due("six walls, 20", x.partings(20), 11628);
        due("six walls, 5", x.partings(5), 0);
        x = Calls.street(SIX_WALLS + "h001;");
        due("seven houses", x.partings(20), -3);
        due("seven houses, 21", x.partings(21), -1);
    }

    private static void uneven() {
        CHECKS.promise("13 uneven");
        TwiceAsRich x = new TwiceAsRich();
        due("no houses, no coins", x.uneven(0), 0);
        due("no houses, a coin", x.uneven(1), -4);
        x = Calls.street("h005;");
        due("one house, none", x.uneven(0), -4);
        due("one house", x.uneven(20), 0);
        for (int n : new int[] {-1, 21, LOW, HIGH}) {
            due("uneven(" + n + ")", x.uneven(n), -1);
        }
        x = Calls.street("h001;h001;");
        due("two houses, 1", x.uneven(1), -4);
        due("two houses, 6", x.uneven(6), 2);
        due("two houses, 7", x.uneven(7), 1);
        x = Calls.street("h001;h001;h001;");
        due("three houses, 6", x.uneven(6), 2);
        x.round(1);
        due("three houses, round, 6", x.uneven(6), 0);
        due("a miser and a house, 20", Calls.street("h401;h001;").uneven(20), 6);
        due("six walls", Calls.street(SIX_WALLS).uneven(20), 14);
        due("seven houses", Calls.street(SIX_WALLS + "h001;").uneven(20), -3);
        due("seven houses, -1", Calls.street(SIX_WALLS + "h001;").uneven(-1), -1);
    }

    private static void richest() {
        CHECKS.promise("14 richest");
        due("no houses", new TwiceAsRich().richest(0, 0), -1);
        TwiceAsRich x = Calls.street("h001;h001;h001;");
        due("richest(6, 0)", x.richest(6, 0), 3);
        due("richest(6, 1)", x.richest(6, 1), 2);
        due("richest(6, 2)", x.richest(6, 2), 3);
        due("richest(2, 2)", x.richest(2, 2), -4);
        for (int house : new int[] {-1, 3, LOW, HIGH}) {
            due("richest(6, " + house + ")", x.richest(6, house), -1);
        }
        for (int n : new int[] {-1, 21, LOW, HIGH}) {
            due("richest(" + n + ", 0)", x.richest(n, 0), -1);
        }
        x.round(1);
        due("round, richest(6, 0)", x.richest(6, 0), 2);
        due("a miser and a house", Calls.street("h401;h001;").richest(20, 0), 13);
        due("a miser and a house", Calls.street("h401;h001;").richest(20, 1), 10);
        due("another's", Calls.street("h001;h001;h301;").richest(10, 2), 8);
        due("six walls", Calls.street(SIX_WALLS).richest(20, 5), 15);
        x = Calls.street(SIX_WALLS + "h001;");
        due("seven houses", x.richest(20, 6), -3);
        due("seven houses, another one", x.richest(20, 7), -1);
        due("seven houses, 21", x.richest(21, 6), -1);
    }

    private static void hands() {
        CHECKS.promise("15 hands");
        due("no houses", new TwiceAsRich().hands(), 0);
        due("one house with none", Calls.street("h000;").hands(), -4);
        due("one house", Calls.street("h0020;").hands(), 0);
        TwiceAsRich x = Calls.street("h001;h001;h008;");
        due("to the last", x.hands(), 4);
        due("purses as they were", x.house(2, 2), 8);
        x.round(1);
        due("lawful round, but never given round", x.hands(), 5);
        due("lawful as it is", Calls.street("h002;h004;h004;").hands(), 0);
        due("none has less than one", Calls.street("h000;h002;").hands(), 1);
        due("none has less than one, though it be lawful", Calls.street("h305;h300;").hands(), 1);
        due("too few", Calls.street("h000;h001;").hands(), -4);
        due("too few, though it be lawful", Calls.street("h000;h000;").hands(), -4);
        due("two misers", Calls.street("h405;h405;").hands(), -4);
        due("from hand to hand over a wall", Calls.street("h003;h301;h000;").hands(), 2);
        due("20 coins", Calls.street("h0010;h0010;").hands(), 0);
        due("21 coins", Calls.street("h0010;h0011;").hands(), -3);
        due("six houses", Calls.street(SIX_WALLS).hands(), 0);
        due("seven houses", Calls.street(SIX_WALLS + "h301;").hands(), -3);
    }

    private static void any() {
        CHECKS.promise("16 any");
        due("no houses", new TwiceAsRich().any(), 0);
        due("one house with none", Calls.street("h000;").any(), -4);
        TwiceAsRich x = Calls.street("h001;h001;h008;");
        due("to the last", x.any(), 3);
        due("purses as they were", x.house(2, 2), 8);
        x.round(1);
        due("lawful round", x.any(), 4);
        due("lawful as it is", Calls.street("h002;h004;h004;").any(), 0);
        due("none has less than one", Calls.street("h305;h300;").any(), 1);
        due("too few", Calls.street("h000;h001;").any(), -4);
        due("two misers", Calls.street("h405;h405;").any(), -4);
        due("over a wall", Calls.street("h003;h301;h000;").any(), 1);
        due("20 coins", Calls.street("h0010;h0010;").any(), 0);
        due("21 coins", Calls.street("h0010;h0011;").any(), -3);
        due("seven houses", Calls.street(SIX_WALLS + "h301;").any(), -3);
    }
}
