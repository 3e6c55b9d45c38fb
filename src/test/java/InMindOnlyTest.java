import java.util.ArrayList;
import java.util.List;

/** What is only had in mind is had by no other call: each of them answers of the street as it is. */
public final class InMindOnlyTest {
    private static final Checks CHECKS = new Checks();
    // SHELF 0: two GIFTS; 1: told PURSES; 2: a text with a FAULT at its end.
    private static final int GIFTS = 0;
    private static final int PURSES = 1;
    private static final int TEXT = 2;
    private static final String[] STREETS = {
        "h004;h003;h006;", "h004;h003;h006;r1;", "h005;h009;", "h304;h1503;h203;h402;r1;", "h003;h003;h003;h003;h004;h004;",
        "h001;h002;h003;h004;h005;h006;h007;r1;", "h002;h009;h004;h008;h001;h007;h309;h6112;",
    };

    public static void main(String[] args) {
        CHECKS.sentence("with a seed z, in mind");
        behindEachStreet("seeded(40, 77)", "");
        behindEachStreet("seeded(7, -1)", "");
        CHECKS.sentence("those that can't be left out (in mind)");
        behindEachStreet("given(" + GIFTS + ", 0)", "");
        CHECKS.sentence("(in mind, be there room or not)");
        behindEachStreet("worth(0, 1)", "");
        behindEachStreet("worth(1, 9999)", "");
        CHECKS.sentence("if they were one HOUSE");
        behindEachStreet("wedding(0)", "");
        CHECKS.sentence("the street were LAWFUL");
        behindEachStreet("fitting(0, 0)", "");
        behindEachStreet("fitting(1, 2)", "");
        CHECKS.sentence("by which there are fewest BREACHES then");
        behindEachStreet("change(0)", "");
        CHECKS.sentence("Without FAULT all of it comes; with one nothing.");
        for (String text : new String[] {"u;u;r1;x", "u;u;g001;", "u;u;h009999;h309999;r1;r2;", "g011;m01;r0;r9;", "u;".repeat(9)}) {
            behindEachStreet("street(" + TEXT + ")", text);
        }
        noHousesButInMind();
        CHECKS.sentence("RESTORED all is as it was then.");
        changedSince();
        CHECKS.end();
    }

    // All that can be asked without anything being changed.
    private static List<String> questions(int houses) {
        List<String> asked = new ArrayList<>(List.of("lawful()", "breaches(-1)", "free()", "hands()", "any()", "image()"));
        asked.addAll(List.of("change(0)", "change(1)", "tax(3)", "tax(9999)", "seeded(1, 5)", "seeded(40, 5)"));
        asked.addAll(List.of("given(" + GIFTS + ", 0)", "given(" + GIFTS + ", 1)", "judge(" + PURSES + ")"));
        for (int what = 0; what < 4; what++) {
            asked.add("count(" + what + ")");
        }
        for (int n : new int[] {6, 11, 20}) {
            asked.addAll(List.of("partings(" + n + ")", "uneven(" + n + ")", "richest(" + n + ", 1)"));
        }
        for (int i = Math.max(0, houses - 3); i <= houses; i++) {
            for (int what = 0; what < 6; what++) {
                asked.add("house(" + i + ", " + what + ")");
            }
            asked.addAll(List.of("breaches(" + i + ")", "held(" + i + ")", "richest(11, " + i + ")", "wedding(" + i + ")"));
            asked.addAll(List.of("worth(" + i + ", 2)", "fitting(" + i + ", 0)", "fitting(" + i + ", 1)", "fitting(" + i + ", 2)"));
        }
        asked.addAll(List.of("give(0, 1, 1)", "weeks(3)", "round(1)"));
        return asked;
    }

    private static Trial withShelves(String street, String text) {
        Trial t = new Trial(CHECKS);
        t.putRow(GIFTS, Calls.SHORTS, 1, 0, 2, 0, 1, 1).putRow(PURSES, Calls.INTS, 4, 3, 6).putText(TEXT, text);
        return street.isEmpty() ? t : t.add(street);
    }

    // A new object for each question, since what is asked may have something in mind, too.
    private static void behindEachStreet(String call, String text) {
        for (String street : STREETS) {
            boolean hasFault = withShelves(street, text).answer(call) <= -1000;
            CHECKS.due("a FAULT of " + text + " behind " + street, hasFault ? 1 : 0, text.isEmpty() ? 0 : 1);
            for (String question : questions(houses(street))) {
                long want = withShelves(street, text).answer(question);
                Trial t = withShelves(street, text);
                t.answer(call);
                t.due(question, want);
            }
        }
    }

    private static int houses(String street) {
        return (int) new Trial(CHECKS, street).answer("count(0)");
    }

    private static void noHousesButInMind() {
        Trial t = withShelves("", "h005;h003;g001;").due("street(" + TEXT + ")", -2010).due("seeded(1, 1)", -3);
        t.due("street(" + TEXT + ")", -2010).due("wedding(0)", -1).due("street(" + TEXT + ")", -2010).due("richest(5, 0)", -1);
        t.due("street(" + TEXT + ")", -2010).due("partings(5)", 0).due("street(" + TEXT + ")", -2010).due("free()", 0);
        t.due("street(" + TEXT + ")", -2010).due("given(" + GIFTS + ", 0)", -13).due("street(" + TEXT + ")", -2010).due("hands()", 0);
        t.due("street(" + TEXT + ")", -2010).due("fitting(0, 0)", -1).due("street(" + TEXT + ")", -2010).due("worth(0, 1)", -1000000001);
        t.due("street(" + TEXT + ")", -2010).due("count(0)", 0).due("street(" + TEXT + ")", -2010).due("change(0)", -4);
    }

    // The same street come to by calls, behind another one that was had in mind, and by a text alone.
    private static void changedSince() {
        for (String question : questions(3)) {
            long want = withShelves("h003;h003;h006;r1;", "").answer(question);
            comeTo().due(question, want);
            comeTo().make("image()").make("weeks(9)").make("give(1, 2, 7)").make("round(0)").make("restore()").due(question, want);
        }
    }

    private static Trial comeTo() {
        Trial t = withShelves("h004;", "").make("fitting(0, 0)").make("keep(3, 1, 0, 0)").make("comes(3, 3)").make("comes(3, 5)");
        return t.make("round(1)").make("give(0, 2, 1)");
    }
}
