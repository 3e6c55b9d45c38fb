/** The document's paragraph 3 under "Terms" and the block behind it: each sentence that names a bound. */
public final class Terms3Test {
    private static final Checks CHECKS = new Checks();
    private static final int LOW = Trial.LOW;
    private static final int HIGH = Trial.HIGH;
    private static final String SIX_WALLS = "h301;h301;h301;h301;h301;h301;";
    private static final String FIVES = "h005;h005;h005;h005;h005;h005;h005;h005;";
    private static final String ONE_TO_EIGHT = "h001;h002;h003;h004;h005;h006;h007;h008;";

    public static void main(String[] args) {
        breachesByHowManyBeside();
        heldWithOneCoinMore();
        freeUpTo9999();
        partingsOf0To20CoinsAmong6Houses();
        partingsGiveOneEachAtLeast();
        unevenIs0WithoutTwo();
        richestIsMinus4WithoutAWay();
        handsGoFromHandToHandNeverRound();
        handsLeaveNoneWithLessThanOne();
        anyIsMinus4IfItCanNotBe();
        changeTellsTheLesserAndTheOther();
        changeIsFewerThanNowAndTheLeastOfSeveral();
        weddingIsWithTheOneBehind();
        weddingHas9999AtMost();
        worthOfANewHouse();
        worthNeedsNoRoom();
        worthMayBeBelow0();
        fittingGoesFrom0To99();
        givenLeavesOutWhatCanNotBe();
        taxIsTheLesserTogether();
        seededGoesFor1To40Nights();
        seededDrawsAHouseAndASide();
        thiefTakesOnlyFromOneThatHasSome();
        thiefHasLessThan9999();
        seededCountsLawfulNights();
        drawsAreInts();
        judgedSkipsTheLeastOfTheSort();
        judgedTellsTheSizeIfShort();
        judgedTellsHowManyHousesIfLong();
        imageHoldsAllButShelves();
        CHECKS.end();
    }

    private static Trial nothing() {
        return new Trial(CHECKS);
    }

    private static Trial street(String text) {
        return new Trial(CHECKS, text);
    }

    // ---- lawful or not

    private static void breachesByHowManyBeside() {
        CHECKS.sentence("BREACHES: of a HOUSE, by how many of those beside it; of all together.");
        nothing().due("breaches(-1)", 0);
        street("h009;").due("breaches(0)", 0).due("breaches(-1)", 0);
        street("h001;h003;h001;").due("breaches(0)", 0).due("breaches(1)", 2).due("breaches(2)", 0).due("breaches(-1)", 2);
        street("h003;h001;h003;").due("breaches(0)", 1).due("breaches(1)", 0).due("breaches(2)", 1).due("breaches(-1)", 2);
        Trial eight = street("h001;h009;h001;h009;h001;h009;h001;h009;r1;");
        eight.due("breaches(1)", 2).due("breaches(7)", 2).due("breaches(-1)", 8);
        eight.due("round(0)", 1).due("breaches(7)", 1).due("breaches(-1)", 7);
    }

    private static void heldWithOneCoinMore() {
        CHECKS.sentence("HELD: HOUSES (bits) beside one by which it would have more than it MAY HAVE with one coin more.");
        street("h003;h005;").due("held(0)", 0).due("held(1)", 0);
        street("h003;h006;").due("held(1)", 1);
        street("h003;h009;").due("held(1)", 1);
        street("h000;h000;").due("held(0)", 2).due("held(1)", 1);
        street("h001;h002;h001;").due("held(1)", 5);
        street("h301;h002;h001;").due("held(1)", 4);
        street("h001;h002;h301;").due("held(1)", 1);
        street("h009999;").due("held(0)", 0);
        street("h009999;h005000;").due("held(0)", 0);
        street("h009999;h004999;").due("held(0)", 2);
        street("h309998;h000;").due("held(0)", 0);
        street("h309999;h000;").due("held(0)", 2);
        street("h309999;h300;").due("held(0)", 0);
        Trial eight = street("h000;h000;h000;h000;h000;h000;h000;h000;r1;");
        eight.due("held(0)", 130).due("held(7)", 65).due("held(3)", 20).due("round(0)", 1).due("held(0)", 2).due("held(7)", 64);
    }

    private static void freeUpTo9999() {
        CHECKS.sentence("FREE: HOUSES (bits) that could have one coin more (9999 at most) so that it is no BREACH of theirs.");
        nothing().due("free()", 0);
        street("h009998;").due("free()", 1);
        street("h009999;").due("free()", 0);
        street("h309998;h309999;").due("free()", 1);
        street("h003;h005;").due("free()", 3);
        street("h003;h006;").due("free()", 1);
        street("h001;h0050;").due("free()", 1);
        street("h000;h000;").due("free()", 0);
        street(FIVES).due("free()", 255);
        street("h001;h001;h001;h001;h001;h001;h001;h002;r1;").due("free()", 127).due("round(0)", 1).due("free()", 127);
        street("h001;h002;h003;r1;").due("free()", 1).due("round(0)", 1).due("free()", 5);
    }

    // ---- partings, gifts

    private static void partingsOf0To20CoinsAmong6Houses() {
        CHECKS.sentence("PARTINGS of n coins (n no more than 20; 6 HOUSES at most)");
        Trial six = street(SIX_WALLS).due("partings(20)", 11628).due("partings(6)", 1).due("partings(0)", 0);
        six.due("uneven(20)", 14).due("richest(20, 0)", 15).due("richest(20, 5)", 15);
        six.refused("partings(21)", -1).refused("uneven(21)", -1).refused("richest(21, 0)", -1);
        six.refused("partings(-1)", -1).refused("uneven(-1)", -1).refused("richest(-1, 0)", -1);
        Trial seven = street(SIX_WALLS + "h301;").refused("partings(20)", -3).refused("partings(0)", -3);
        seven.refused("uneven(20)", -3).refused("richest(20, 6)", -3);
        street(SIX_WALLS + "h301;h301;").refused("partings(20)", -3).refused("uneven(8)", -3).refused("richest(8, 0)", -3);
        nothing().due("partings(0)", 1).due("partings(1)", 0).due("partings(20)", 0);
    }

    private static void partingsGiveOneEachAtLeast() {
        CHECKS.sentence("(one each at least; KINDS as they are)");
        street("h309999;").due("partings(0)", 0).due("partings(1)", 1).due("partings(20)", 1);
        street("h300;h300;").due("partings(1)", 0).due("partings(2)", 1).due("partings(3)", 2).due("partings(20)", 19);
        street("h000;h000;").due("partings(5)", 2).due("partings(2)", 1);
        street("h300;h000;").due("partings(5)", 4).add("u;u;h000;h000;").due("partings(5)", 2).add("m01;u;h700;").due("partings(5)", 3);
        street("h700;h000;").due("partings(5)", 3);
        street(SIX_WALLS).due("partings(5)", 0).due("partings(6)", 1).due("partings(7)", 6);
        Trial three = street("h000;h000;h000;").due("partings(6)", 3);
        three.due("round(1)", 0).due("partings(6)", 1).due("partings(3)", 1).due("partings(2)", 0);
    }

    private static void unevenIs0WithoutTwo() {
        CHECKS.sentence("the greatest difference of two PURSES in one of these (0: there are no two)");
        nothing().due("uneven(0)", 0).due("uneven(1)", -4).due("uneven(20)", -4);
        street("h305;").due("uneven(0)", -4).due("uneven(1)", 0).due("uneven(20)", 0);
        street("h305;h305;").due("uneven(1)", -4).due("uneven(2)", 0).due("uneven(3)", 1).due("uneven(20)", 18);
        street("h005;h005;").due("uneven(3)", 1).due("uneven(4)", 0).due("uneven(6)", 2);
    }

    private static void richestIsMinus4WithoutAWay() {
        CHECKS.sentence("the most that a told HOUSE has in one (-4 there is no such way).");
        street("h305;").due("richest(0, 0)", -4).due("richest(1, 0)", 1).due("richest(20, 0)", 20);
        street("h305;h305;").due("richest(1, 1)", -4).due("richest(2, 1)", 1).due("richest(20, 1)", 19).due("richest(20, 0)", 19);
        street("h000;h700;").due("richest(7, 0)", 4).due("richest(7, 1)", 6);
        street("h400;h400;").due("richest(20, 0)", -4);
    }

    private static void handsGoFromHandToHandNeverRound() {
        CHECKS.sentence("HANDS: the fewest coins that must be given on from a HOUSE to one beside it, "
            + "each hand to hand counted (never round)");
        nothing().due("hands()", 0);
        street("h302;h300;").due("hands()", 1);
        street("h3010;h301;h301;h300;").due("hands()", 3).due("round(1)", 0).due("hands()", 3);
        street("h302;h301;h300;r1;").due("hands()", 2);
        street("h300;h301;h302;r1;").due("hands()", 2);
        street("h001;h008;").due("hands()", 2);
        street("h008;h001;").due("hands()", 2);
        street("h3015;h301;h301;h301;h301;h301;").due("hands()", 0);
        street("h3020;h300;h300;h300;h300;h300;").due("hands()", 15);
        street("h0010;h0010;").due("hands()", 0);
        street("h0010;h0011;").refused("hands()", -3);
        street(SIX_WALLS).due("hands()", 0);
        street(SIX_WALLS + "h301;").refused("hands()", -3);
    }

    private static void handsLeaveNoneWithLessThanOne() {
        CHECKS.sentence("so that it is LAWFUL and none has less than one");
        street("h300;").due("hands()", -4).due("any()", -4);
        street("h301;").due("hands()", 0).due("any()", 0);
        street("h301;h300;").due("hands()", -4).due("any()", -4);
        street("h302;h300;").due("hands()", 1).due("any()", 1);
        street("h300;h000;").due("lawful()", 1).due("hands()", -4);
        street("h003;h006;").due("hands()", 0).due("any()", 0);
        street("h003;h007;").due("hands()", 1).due("any()", 1);
    }

    private static void anyIsMinus4IfItCanNotBe() {
        CHECKS.sentence("ANY: the fewest that must change their HOUSE for that (-4 it can't be).");
        nothing().due("any()", 0);
        street("h400;h4020;").due("any()", -4).due("hands()", -4);
        street("h302;h301;h300;").due("any()", 1);
        street("h3020;h300;h300;h300;h300;h300;").due("any()", 5);
        street("h0010;h0010;").due("any()", 0);
        street("h0010;h0011;").refused("any()", -3);
        street(SIX_WALLS).due("any()", 0);
        street(SIX_WALLS + "h301;").refused("any()", -3);
    }

    // ---- houses moved

    private static void changeTellsTheLesserAndTheOther() {
        CHECKS.sentence("CHANGE: the exchange of two HOUSES (10 times the lesser, and the other)");
        street("h002;h001;h004;").due("change(0)", 1).due("change(1)", 0);
        street("h001;h004;h002;").due("change(0)", 12).due("change(1)", 0);
        street("h001;h002;h004;h008;h0016;h0032;h00128;h0064;").due("change(0)", 67).due("change(1)", 0);
        street("h00128;h002;h004;h008;h0016;h0032;h0064;h001;").due("change(0)", 7).due("change(1)", 0);
    }

    private static void changeIsFewerThanNowAndTheLeastOfSeveral() {
        CHECKS.sentence("by which there are fewest BREACHES then, fewer than now, of several the least; -4; how many there are then.");
        nothing().due("change(0)", -4).due("change(1)", -4);
        street("h009;").due("change(0)", -4).due("change(1)", -4);
        street("h001;h009;").due("change(0)", -4).due("change(1)", -4);
        street("h001;h002;h004;").due("change(0)", -4).due("change(1)", -4);
        street("h001;h008;h004;").due("change(0)", -4).due("change(1)", -4);
        street("h001;h004;h004;h001;").due("change(0)", 2).due("change(1)", 1);
        Trial round = street("h001;h002;h002;h004;r1;").due("change(0)", 1).due("change(1)", 0);
        round.due("round(0)", 1).due("change(0)", -4).due("change(1)", -4);
    }

    private static void noWeddingOfTheLast(String street, int last) {
        for (int round = 0; round < 2; round++) {
            street(street + "r" + round + ";").refused("wedding(" + last + ")", -1).refused("wedding(" + (last + 1) + ")", -1);
        }
    }

    private static void weddingIsWithTheOneBehind() {
        CHECKS.sentence("WEDDING of a HOUSE and the one behind it: BREACHES of all, if they were one HOUSE "
            + "(of the first one's KIND, FIGURE) with both PURSES");
        noWeddingOfTheLast("r0;", 0);
        noWeddingOfTheLast("h005;", 0);
        noWeddingOfTheLast("h005;h005;", 1);
        noWeddingOfTheLast("h005;h005;h005;", 2);
        noWeddingOfTheLast(FIVES, 7);
        street("h001;h0090;").due("wedding(0)", 0).due("round(1)", 0).due("wedding(0)", 0);
        street("h001;h004;h006;").due("wedding(0)", 0).due("wedding(1)", 1);
        street("h001;h001;h008;r1;").due("wedding(0)", 1);
        street("h001;h001;h001;h008;r1;").due("wedding(0)", 2);
        street(ONE_TO_EIGHT + "r1;").due("wedding(6)", 2).due("round(0)", 1).due("wedding(6)", 1);
        street("h1405;h005;h003;").due("wedding(0)", 0);
        street("h1305;h405;h003;").due("wedding(0)", 1);
        street("h3050;h000;h001;").due("wedding(0)", 0);
        street("h0050;h300;h001;").due("wedding(0)", 1);
    }

    private static void weddingHas9999AtMost() {
        CHECKS.sentence("with both PURSES (9999 at most)");
        street("h009998;h001;h005000;").due("wedding(0)", 0);
        street("h009998;h001;h004999;").due("wedding(0)", 1);
        street("h009999;h002;h005000;").due("wedding(0)", 0);
        street("h009999;h009999;h005000;").due("wedding(0)", 0);
        street("h309999;h309999;h000;").due("wedding(0)", 0);
    }

    private static void worthOfANewHouse() {
        CHECKS.sentence("WORTH of a new HOUSE (KIND 0) with a told PURSE (0 .. 9999) right behind a HOUSE");
        Trial t = street("h005;h0010;").refused("worth(0, -1)", -1000000001).refused("worth(0, 10000)", -1000000001);
        t.due("worth(0, 0)", -20).due("worth(0, 9)", -2).due("worth(0, 10)", 0).due("worth(0, 9999)", 9979);
        t.due("worth(1, 0)", -10).due("worth(1, 4)", -2).due("worth(1, 5)", 0).due("worth(1, 9999)", 0);
        t.due("round(1)", 0).due("worth(0, 0)", -20).due("worth(0, 9)", -2).due("worth(0, 9999)", 0);
        Trial three = street("h002;h004;h003;r1;").due("worth(2, 1)", -2).due("worth(2, 9)", 4).due("worth(0, 9)", 0);
        three.due("round(0)", 1).due("worth(2, 1)", -6).due("worth(2, 9)", 0).due("worth(0, 9)", 10);
        street("h005;h700;h005;").due("worth(0, 2)", 4).due("worth(1, 0)", 0);
        // The one beside it round is of the kind that it was, though it is one place further on.
        street("h005;h005;h300;r1;").due("worth(0, 9)", 8).due("worth(0, 0)", -10);
        street("h005;h300;h005;r1;").due("worth(0, 9)", 0).due("worth(0, 4)", -2);
    }

    private static void worthNeedsNoRoom() {
        CHECKS.sentence("(in mind, be there room or not)");
        Trial eight = street(FIVES).due("worth(0, 4)", -2).due("worth(7, 4)", -2).due("worth(7, 5)", 0).due("worth(3, 9999)", 0);
        eight.due("round(1)", 0).due("worth(7, 4)", -2).due("worth(7, 0)", -10).due("worth(0, 4)", -2);
        eight.due("count(0)", 8).due("count(2)", 40).refused("worth(8, 4)", -1000000001);
    }

    private static void worthMayBeBelow0() {
        CHECKS.sentence("by how much MOST of the latter were more then (may be below 0).");
        street("h005;").due("worth(0, 0)", -9999).due("worth(0, 4999)", -1).due("worth(0, 5000)", 0).due("worth(0, 9999)", 0);
        street("h300;").due("worth(0, 0)", 0);
        street("h000;h000;").due("worth(0, 0)", 0).due("worth(0, 5000)", 9999).due("worth(0, 4999)", 9998);
        street("h400;h000;").due("worth(0, 0)", 0).due("worth(0, 1)", 1);
    }

    // ---- what fits, gifts, taxes

    private static void fits(String street, int house, int many, int least, int greatest) {
        Trial t = street(street).due("fitting(" + house + ", 0)", many);
        t.due("fitting(" + house + ", 1)", least).due("fitting(" + house + ", 2)", greatest);
    }

    private static void fittingGoesFrom0To99() {
        CHECKS.sentence("FITTING: for how many PURSES (0 .. 99) of a HOUSE the street were LAWFUL; the least; the greatest; -4.");
        fits("h009999;", 0, 100, 0, 99);
        fits("h000;h009;", 1, 1, 0, 0);
        fits("h0050;h001;", 1, 75, 25, 99);
        fits("h0049;h001;", 1, 74, 25, 98);
        fits("h00198;h001;", 1, 1, 99, 99);
        fits("h00199;h001;", 1, 0, -4, -4);
        fits("h004;h0099;h006;", 1, 6, 3, 8);
        fits("h004;h0099;h006;", 0, 0, -4, -4);
        fits("h004;h005;h006;r1;", 0, 8, 3, 10);
        fits("h004;h005;h006;", 0, 8, 3, 10);
        fits("h008;h005;h003;r1;", 0, 4, 3, 6);
        fits("h008;h005;h003;", 0, 8, 3, 10);
    }

    private static void givenLeavesOutWhatCanNotBe() {
        CHECKS.sentence("GIVEN: a ROW of GIFTS, one behind the other, those that can't be left out (in mind): "
            + "BREACHES then; how many were given.");
        Trial t = street("h005;h009995;h000;");
        t.putRow(0, 1, 0, 1, 4).due("given(0, 1)", 1).putRow(0, 1, 0, 1, 5).due("given(0, 1)", 0);
        t.putRow(0, 1, 0, 2, 5).due("given(0, 1)", 1).putRow(0, 1, 0, 2, 6).due("given(0, 1)", 0);
        t.putRow(0, 1, 2, 0, 1, 0, 2, 1, 2, 0, 1).due("given(0, 1)", 2);
        t.putRow(0, 1, 0, 1, 5, 1, 2, 1, 0, 1, 5).due("given(0, 1)", 2);
        t.due("count(2)", 10000).due("house(0, 2)", 5).due("house(2, 2)", 0);
        street("h001;h005;").putRow(0, 1, 1, 0, 2).due("breaches(-1)", 1).due("given(0, 0)", 0).due("breaches(-1)", 1);
        street("h001;h005;").putRow(0, 1, 1, 0, 6).due("given(0, 0)", 1).due("given(0, 1)", 0);
        street("h001;h005;").make("row(0, 1, 0)").due("given(0, 0)", 1).due("given(0, 1)", 0);
    }

    private static void taxIsTheLesserTogether() {
        CHECKS.sentence("TAX: what is left in all, if of each HOUSE all above a told level (0 .. 9999) is taken "
            + "(the lesser of its PURSE and that, together).");
        Trial t = street("h002;h309999;h107;").refused("tax(-1)", -1).refused("tax(10000)", -1);
        t.due("tax(0)", 0).due("tax(1)", 3).due("tax(2)", 6).due("tax(3)", 8).due("tax(7)", 16).due("tax(8)", 17);
        t.due("tax(9998)", 10007).due("tax(9999)", 10008).due("count(2)", 10008);
        nothing().due("tax(0)", 0).due("tax(9999)", 0).refused("tax(10000)", -1);
    }

    // ---- thefts

    private static final int[] SEEDS = {0, 1, -1, 5, 77, LOW, HIGH, 123456789, -123456789};
    // The first two DRAWS of each seed (ahead of "modulo n"), reckoned by hand with long numbers.
    private static final int[] FIRST = {0, 16838, 15929, 18655, 18597, 0, 15929, 3536, 29231};
    private static final int[] SECOND = {21468, 5758, 4409, 8457, 24260, 21468, 4409, 17195, 25740};

    private static void seededGoesFor1To40Nights() {
        CHECKS.sentence("SEEDED: n nights (1 .. 40) with a seed z, in mind");
        Trial t = street("h004;h003;").refused("seeded(0, 1)", -1).refused("seeded(41, 1)", -1).refused("seeded(-1, 1)", -1);
        t.due("seeded(1, 77)", 1).due("seeded(40, 77)", lawfulNights(4, 3, 77));
        street("h300;").due("seeded(1, 5)", 1).due("seeded(40, 5)", 40).due("seeded(40, " + LOW + ")", 40);
        street("h004;h003;").due("seeded(40, 5)", lawfulNights(4, 3, 5)).due("house(0, 2)", 4).due("house(1, 2)", 3);
        nothing().refused("seeded(1, 1)", -3).refused("seeded(40, 1)", -3);
    }

    private static void seededDrawsAHouseAndASide() {
        CHECKS.sentence("a HOUSE (a DRAW below how many there are) and a side (a DRAW below 2: 0 the one ahead, 1 the one behind it)");
        for (int houses = 2; houses <= 8; houses++) {
            for (int round = 0; round < 2; round++) {
                for (int thief = 0; thief < houses; thief++) {
                    thefts(houses, round, thief, 0);
                    thefts(houses, round, thief, 1);
                }
            }
        }
    }

    // A street that is lawful behind a night only if that thief takes from that side.
    private static void thefts(int houses, int round, int thief, int side) {
        int robbed = side == 0 ? thief - 1 : thief + 1;
        if (round == 1 && houses >= 3) {
            robbed = (robbed + houses) % houses;
        }
        if (robbed < 0 || robbed >= houses) {
            return;
        }
        StringBuilder text = new StringBuilder();
        for (int i = 0; i < houses; i++) {
            text.append(i == thief ? "h001;" : i == robbed ? "h004;" : "h300;");
        }
        Trial t = street(text + "r" + round + ";");
        for (int i = 0; i < SEEDS.length; i++) {
            boolean isDrawn = FIRST[i] % houses == thief && SECOND[i] % 2 == side;
            t.due("seeded(1, " + SEEDS[i] + ")", isDrawn ? 1 : 0);
        }
    }

    private static void thiefTakesOnlyFromOneThatHasSome() {
        CHECKS.sentence("it takes one coin from that one, if there is such a one that has some");
        for (int seed : SEEDS) {
            street("h009;").due("seeded(40, " + seed + ")", 40);
            street("h000;h000;").due("seeded(40, " + seed + ")", 40);
            street("h000;h000;h000;r1;").due("seeded(40, " + seed + ")", 40);
        }
        // Only the first one can take the last coin of the other, which has more than it may until then.
        for (int i = 0; i < SEEDS.length; i++) {
            boolean isTaken = FIRST[i] % 2 == 0 && SECOND[i] % 2 == 1;
            street("h700;h001;").due("seeded(1, " + SEEDS[i] + ")", isTaken ? 1 : 0);
        }
    }

    private static void thiefHasLessThan9999() {
        CHECKS.sentence("and has itself less than 9999: behind how many nights it was LAWFUL.");
        for (int i = 0; i < SEEDS.length; i++) {
            boolean isTaken = FIRST[i] % 2 == 0 && SECOND[i] % 2 == 1;
            street("h009998;h005000;").due("seeded(1, " + SEEDS[i] + ")", isTaken ? 0 : 1);
            street("h009999;h005000;").due("seeded(1, " + SEEDS[i] + ")", 1).due("seeded(40, " + SEEDS[i] + ")", 40);
        }
    }

    // The bits tell of each night whether it was lawful behind it; reckoned outside this project.
    private static void nights(String street, int seed, String bits) {
        Trial t = street(street);
        int lawful = 0;
        for (int n = 1; n <= bits.length(); n++) {
            lawful += bits.charAt(n - 1) - '0';
            t.due("seeded(" + n + ", " + seed + ")", lawful);
        }
    }

    private static void seededCountsLawfulNights() {
        CHECKS.sentence("behind how many nights it was LAWFUL.");
        nights("h004;h003;h006;h005;r1;", 5, "1010011111111000000000000000100000000000");
        nights("h003;h003;h003;", -1, "1100000000000001110011100000000000000000");
        nights("h003;h003;h003;r1;", -1, "1000000000000000000000000000000111011011");
        nights("h005;h006;h007;h008;h009;h008;h007;h006;r1;", LOW, "1111111111010000000001100000000000000000");
        nights("h005;h006;h007;h008;h009;h008;h007;h006;", HIGH, "1111111111111111111111111111111111110000");
        nights("h002;h003;r1;", 77, "0000000000000000110101111111101111111000");
        nights("h005000;h009998;h009999;h005001;h009998;r1;", 123456789, "1000000000000001011011111111111111111111");
    }

    private static void drawsAreInts() {
        CHECKS.sentence("DRAWS: z becomes z times 1103515245 plus 12345 (an int); "
            + "a DRAW below n is (z without its sign's bit over 65536, cut) modulo n.");
        for (int n = 1; n <= 40; n += 13) {
            // Seeds that differ in the sign's bit alone draw the same, since that bit never comes lower.
            for (int seed : new int[] {0, 1, 5, 77, 123456789}) {
                Trial t = street("h004;h003;h006;h005;h007;r1;");
                long drawn = t.answer("seeded(" + n + ", " + seed + ")");
                t.due("seeded(" + n + ", " + (seed + LOW) + ")", drawn);
            }
        }
        // The DRAWS of -1 come from -1103502900 and 288979989: house 15929 % 3 = 2, side 4409 % 2 = 1.
        street("h004;h300;h001;r1;").due("seeded(1, -1)", 1);
        // Those of 77 from -928659710 and 1589938195: house 18597 % 5 = 2, side 24260 % 2 = 0.
        street("h300;h004;h001;h300;h300;").due("seeded(1, 77)", 1);
        // Those of 1 from 1103527590 and -1770082073: house 16838 % 7 = 3, side 5758 % 2 = 0.
        street("h300;h300;h004;h001;h300;h300;h300;").due("seeded(1, 1)", 1);
    }

    // The same thefts of two houses, with the draws reckoned in longs.
    private static int lawfulNights(int first, int second, int seed) {
        long z = seed & 0xffffffffL;
        int lawful = 0;
        for (int night = 0; night < 40; night++) {
            z = (z * 1103515245L + 12345L) % (1L << 32);
            long thief = (z % (1L << 31) >> 16) % 2;
            z = (z * 1103515245L + 12345L) % (1L << 32);
            long side = (z % (1L << 31) >> 16) % 2;
            if (thief == 0 && side == 1 && second > 0) {
                first++;
                second--;
            } else if (thief == 1 && side == 0 && first > 0) {
                first--;
                second++;
            }
            lawful += first <= 2 * second && second <= 2 * first ? 1 : 0;
        }
        return lawful;
    }

    // ---- told purses

    private static void judged(String street, int sort, int want, int... purses) {
        street(street).putRow(0, sort, purses).due("judge(0)", want);
    }

    private static void judgedSkipsTheLeastOfTheSort() {
        CHECKS.sentence("JUDGED: a ROW: PURSES of HOUSES 0, 1, ..: the first that isn't so (the least number of the SORT is skipped)");
        judged("h002;h004;", 0, -4, -128, 4);
        judged("h002;h004;", 0, -4, 2, -128);
        judged("h002;h004;", 0, 0, -127, 4);
        judged("h002;h004;", 1, -4, -32768, 4);
        judged("h002;h004;", 1, 0, -32767, 4);
        judged("h002;h004;", 1, 0, -128, 4);
        judged("h002;h004;", 2, -4, LOW, LOW);
        judged("h002;h004;", 2, 0, LOW + 1, 4);
        judged("h002;h004;", 2, 0, -32768, 4);
        judged("h002;h004;", 2, 1, 2, -128);
        judged("h00128;", 0, -4, 128);
        judged("h00128;", 1, -4, 128);
        judged("h00127;", 0, -4, 127);
        judged("h00129;", 0, 0, 129);
        judged("h009999;", 1, -4, 9999);
        judged("h000;h000;", 0, -4, 0, 0);
        judged(FIVES, 2, 7, 5, 5, 5, 5, 5, 5, 5, 6);
        judged(FIVES, 2, -4, 5, 5, 5, 5, 5, 5, 5, 5);
    }

    private static void judgedTellsTheSizeIfShort() {
        CHECKS.sentence("the size, if it is short");
        for (int sort = 0; sort < 3; sort++) {
            judged("h002;h004;", sort, 0);
            judged("h002;h004;", sort, 1, 2);
            judged("h002;h004;", sort, 0, 3);
            judged(FIVES, sort, 7, 5, 5, 5, 5, 5, 5, 5);
        }
        judged("h002;h004;", 0, 1, -128);
        // Those that are no more are not looked at.
        judged("h002;h004;h006;u;", 0, -4, 2, 4);
        judged("h002;h004;h006;u;", 0, 1, 2);
    }

    private static void judgedTellsHowManyHousesIfLong() {
        CHECKS.sentence("how many HOUSES, if it is long; -4.");
        for (int sort = 0; sort < 3; sort++) {
            nothing().make("row(0, " + sort + ", 0)").due("judge(0)", -4);
            nothing().make("row(0, " + sort + ", 1)").due("judge(0)", 0);
            judged("h002;h004;", sort, 2, 2, 4, 6);
            judged("h002;h004;", sort, 1, 2, 5, 6);
            judged(FIVES, sort, 8, 5, 5, 5, 5, 5, 5, 5, 5, 0);
            judged(FIVES, sort, 8, new int[] {5, 5, 5, 5, 5, 5, 5, 5, 1, 2, 3});
        }
        judged("h002;h004;", 0, 2, 2, 4, -128);
        judged("h000;h000;", 2, 2, new int[100]);
    }

    // ---- the image

    private static void imageHoldsAllButShelves() {
        CHECKS.sentence("THE IMAGE: all that there is, but SHELVES (and THE IMAGE); RESTORED all is as it was then.");
        nothing().refused("restore()", -3).due("image()", 0).due("restore()", 0).due("count(0)", 0);
        nothing().due("image()", 0).add("h005;r1;").due("restore()", 0).due("count(0)", 0).due("count(1)", 0);
        Trial t = street("h1905;h307;r1;").make("keep(0, 1, 6, 9)").make("row(1, 1, 2)").due("image()", 12);
        t.add("u;u;r0;h2301;h003;h004;").due("count(2)", 8).make("keep(0, 1, 1, 9)").make("put(1, 1, 5)");
        t.due("restore()", 12).due("count(0)", 2).due("count(1)", 1);
        t.due("house(0, 0)", 1).due("house(0, 1)", 9).due("house(0, 2)", 5).due("house(1, 0)", 3).due("house(1, 2)", 7);
        t.due("fee(0)", 50).due("element(1, 1)", 5);
        t.due("weeks(9)", 111).due("restore()", 12).due("restore()", 12);
        t.due("weeks(9)", 111).due("image()", 111).due("give(0, 1, 104)", 0).due("restore()", 111).due("house(0, 2)", 104);
        Trial eight = street("h009999;h009999;h009999;h009999;h009999;h009999;h009999;h009999;");
        eight.due("image()", 79992).add("u;u;u;u;u;u;u;u;").due("restore()", 79992).due("count(0)", 8).due("house(7, 2)", 9999);
    }
}
