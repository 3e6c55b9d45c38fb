/** Promises 25 to 34: the image, what is told, shelves. */
public final class ShelvesTest {
    private static final Checks CHECKS = new Checks();
    private static final int LOW = Integer.MIN_VALUE;
    private static final int HIGH = Integer.MAX_VALUE;
    private static final int[] NO_SHELVES = {-1, 8, LOW, HIGH};

    public static void main(String[] args) {
        image();
        restore();
        count();
        keep();
        row();
        put();
        element();
        copyRefusals();
        copy();
        fee();
        toss();
        CHECKS.end();
    }

    private static void due(String call, long got, long want) {
        CHECKS.due(call, got, want);
    }

    private static void image() {
        CHECKS.promise("25 image");
        TwiceAsRich x = new TwiceAsRich();
        due("no houses", x.image(), 0);
        due("no houses restored", x.restore(), 0);
        Calls.read(x, "h1307;h009;");
        due("image()", x.image(), 16);
        x.weeks(1);
        due("another image", x.image(), 23);
        due("the newest is restored", x.restore(), 23);
    }

    private static void restore() {
        CHECKS.promise("26 restore");
        TwiceAsRich x = new TwiceAsRich();
        due("none was taken", x.restore(), -3);
        Calls.read(x, "h1307;h6209;r1;");
        x.image();
        Calls.read(x, "u;u;h3055;h4401;h002;r0;");
        x.keep(0, 1, 5, 6);
        due("restore()", x.restore(), 16);
        due("houses", x.count(0), 2);
        due("round", x.count(1), 1);
        due("kind", x.house(0, 0), 1);
        due("figure", x.house(1, 1), 2);
        due("purse", x.house(1, 2), 9);
        due("shelves stay as they are", x.fee(0), 9);
        due("rows stay as they are", Calls.element(x, 7, 4), 'h');
        x.weeks(1);
        due("restored again", x.restore(), 16);
        x.give(1, 0, 3);
        due("the image is not changed by gifts", x.restore() + x.house(0, 2), 23);
    }

    private static void count() {
        CHECKS.promise("27 count");
        TwiceAsRich x = Calls.street("h001;h002;h005;h005;h0099;");
        due("houses", x.count(0), 5);
        due("round", x.count(1), 0);
        due("coins", x.count(2), 112);
        due("without breach", x.count(3), 3);
        x.round(1);
        due("round", x.count(1), 1);
        due("in a round without breach", x.count(3), 3);
        x.weeks(99);
        due("without breach, all rich", x.count(3), 5);
        for (int what : new int[] {-1, 4, LOW, HIGH}) {
            due("count(" + what + ")", x.count(what), -1);
        }
    }

    private static void keep() {
        CHECKS.promise("28 keep");
        TwiceAsRich x = new TwiceAsRich();
        for (int d : NO_SHELVES) {
            due("keep(" + d + ", 0, 0, 0)", x.keep(d, 0, 0, 0), -1);
            due("keep(" + d + ", 1, 0, 0)", x.keep(d, 1, 0, 0), -1);
        }
        for (int d = 0; d < 8; d++) {
            due("keep(" + d + ", 1, " + d + ", 2)", x.keep(d, 1, d, 2), 0);
        }
        for (int what : new int[] {-1, 2, LOW, HIGH}) {
            due("keep(0, " + what + ", 0, 0)", x.keep(0, what, 0, 0), -1);
        }
        for (int kind : new int[] {-1, 8, LOW, HIGH}) {
            due("kind " + kind, x.keep(0, 1, kind, 0), -1);
        }
        for (int figure : new int[] {-1, 10, LOW, HIGH}) {
            due("figure " + figure, x.keep(0, 1, 0, figure), -1);
        }
        due("a refused call changes nothing", x.toss(0), 2);
        for (int d = 0; d < 8; d++) {
            due("comes", x.comes(d, d), d);
            due("kind", x.house(d, 0), d);
            due("figure", x.house(d, 1), 2);
        }
        due("nothing, the others do not matter", x.keep(1, 0, 99, -5), 0);
        due("nothing held", x.fee(1), -11);
        x.row(1, 0, 4);
        due("nothing in place of a row", x.keep(1, 0, LOW, HIGH), 0);
        due("nothing held", x.judge(1), -11);
        x.row(1, 0, 4);
        due("a house in place of a row", x.keep(1, 1, 1, 9), 0);
        due("fee", x.fee(1), 50);
        due("no row", x.put(1, 0, 0), -12);
    }

    private static void row() {
        CHECKS.promise("29 row");
        TwiceAsRich x = new TwiceAsRich();
        for (int d : NO_SHELVES) {
            due("row(" + d + ", 0, 1)", x.row(d, 0, 1), -1);
            due("row(" + d + ", 0, -1)", x.row(d, 0, -1), -1);
        }
        x.keep(0, 1, 0, 4);
        for (int sort : new int[] {-1, 3, LOW, HIGH}) {
            due("sort " + sort, x.row(0, sort, 1), -1);
            due("sort " + sort + ", a size below 0", x.row(0, sort, -1), -1);
        }
        due("101", x.row(0, 0, 101), -1);
        due("high", x.row(0, 0, HIGH), -1);
        due("-1", x.row(0, 0, -1), -14);
        due("low", x.row(0, 2, LOW), -14);
        due("a refused call changes nothing", x.toss(0), 4);
        for (int sort = 0; sort < 3; sort++) {
            due("a row of 100", x.row(0, sort, 100), 0);
            due("no house", x.fee(0), -12);
            due("the last is 0 at first", Calls.element(x, 0, 99), 0);
            due("no more", Calls.element(x, 0, 100), Calls.NO_ELEMENT);
            x.put(0, 99, 5);
            x.put(0, 0, 6);
            due("a row of none", x.row(0, sort, 0), 0);
            due("no elements", Calls.element(x, 0, 0), Calls.NO_ELEMENT);
            due("a row of 100 again", x.row(0, sort, 100), 0);
            due("the first is 0 again", Calls.element(x, 0, 0), 0);
            due("the last is 0 again", Calls.element(x, 0, 99), 0);
        }
        x.row(1, 0, 3);
        due("rows of their own", x.put(1, 1, 7) + Calls.element(x, 0, 1), 0);
    }

    private static void put() {
        CHECKS.promise("30 put");
        TwiceAsRich x = new TwiceAsRich();
        for (int d : NO_SHELVES) {
            due("put(" + d + ", 0, 0)", x.put(d, 0, 0), -1);
        }
        due("nothing held", x.put(0, 0, 0), -11);
        due("nothing held, no such place", x.put(0, -1, 0), -11);
        x.keep(0, 1, 0, 0);
        due("a house", x.put(0, 0, 0), -12);
        int[] values = {0, 1, -1, 127, 128, -128, -129, 255, 256, 32767, 32768, -32769, 65535, 70000, LOW, HIGH};
        int[] bytes = {0, 1, -1, 127, -128, -128, 127, -1, 0, -1, 0, -1, -1, 112, 0, -1};
        int[] shorts = {0, 1, -1, 127, 128, -128, -129, 255, 256, 32767, -32768, 32767, -1, 4464, 0, -1};
        int[][] due = {bytes, shorts, values};
        for (int sort = 0; sort < 3; sort++) {
            x.row(0, sort, 5);
            for (int i : new int[] {-1, 5, LOW, HIGH}) {
                due("put(0, " + i + ", 1)", x.put(0, i, 1), -13);
            }
            for (int k = 0; k < values.length; k++) {
                due("put(0, 4, " + values[k] + ")", x.put(0, 4, values[k]), 0);
                due("what is kept of " + values[k] + " in sort " + sort, Calls.element(x, 0, 4), due[sort][k]);
            }
            due("the one ahead", Calls.element(x, 0, 3), 0);
        }
    }

    private static void element() {
        CHECKS.promise("31 element");
        TwiceAsRich x = new TwiceAsRich();
        for (int d : NO_SHELVES) {
            due("element(" + d + ", 0)", Calls.element(x, d, 0), Calls.NO_SHELF);
        }
        due("nothing held", Calls.element(x, 0, 0), Calls.NO_ELEMENT);
        x.keep(0, 1, 0, 0);
        due("a house", Calls.element(x, 0, 0), Calls.NO_ELEMENT);
        Calls.putRow(x, 0, Calls.INTS, 5, LOW, HIGH);
        due("the first", Calls.element(x, 0, 0), 5);
        due("the least there can be", Calls.element(x, 0, 1), LOW);
        due("the greatest there can be", Calls.element(x, 0, 2), HIGH);
        for (int i : new int[] {-1, 3, LOW, HIGH}) {
            due("element(0, " + i + ")", Calls.element(x, 0, i), Calls.NO_ELEMENT);
        }
        x.keep(0, 1, 0, 0);
        due("a house in place of the row", Calls.element(x, 0, 0), Calls.NO_ELEMENT);
        x.row(7, 0, 1);
        due("the last shelf", Calls.element(x, 7, 0), 0);
        due("no such shelf and no such place", Calls.element(x, 8, -1), Calls.NO_SHELF);
    }

    private static void copyRefusals() {
        CHECKS.promise("32 copy, refusals");
        TwiceAsRich x = new TwiceAsRich();
        x.row(0, 1, 4);
        x.row(1, 1, 4);
        x.row(2, 2, 4);
        x.keep(3, 1, 0, 0);
        for (int d : NO_SHELVES) {
            due("copy(" + d + ", 0, 0, 0, 1)", x.copy(d, 0, 0, 0, 1), -1);
            due("copy(0, 0, " + d + ", 0, 1)", x.copy(0, 0, d, 0, 1), -1);
            due("copy(4, 0, " + d + ", 0, 1)", x.copy(4, 0, d, 0, 1), -1);
        }
        due("nothing held, from", x.copy(4, 0, 0, 0, 1), -11);
        due("nothing held, to", x.copy(0, 0, 4, 0, 1), -11);
        due("a house, and nothing held", x.copy(3, 0, 4, 0, 1), -11);
        due("nothing held, and a house", x.copy(4, 0, 3, 0, 1), -11);
        due("a house, from", x.copy(3, 0, 0, 0, 1), -12);
        due("a house, to", x.copy(0, 0, 3, 0, 1), -12);
        due("houses", x.copy(3, 0, 3, 0, 1), -12);
        due("two sorts", x.copy(0, 0, 2, 0, 1), -12);
        due("two sorts, no such place", x.copy(0, 9, 2, 0, 1), -12);
        int[][] wrong = {
            {0, 0, -1}, {-1, 0, 1}, {0, -1, 1}, {4, 0, 1}, {0, 4, 1}, {2, 0, 3}, {0, 2, 3}, {0, 0, 5}, {5, 0, 0},
            {0, 5, 0}, {-1, 0, 0}, {0, -1, 0}, {0, 0, LOW}, {0, 0, HIGH}, {HIGH, 0, 1}, {0, HIGH, 1}, {LOW, 0, 1},
            {0, LOW, 1}, {HIGH, HIGH, HIGH}, {LOW, LOW, LOW}, {LOW, 0, LOW}, {1, 1, HIGH}, {-1, 1, HIGH},
        };
        for (int[] w : wrong) {
            due("copy(0, " + w[0] + ", 1, " + w[1] + ", " + w[2] + ")", x.copy(0, w[0], 1, w[1], w[2]), -13);
        }
        x.row(4, 1, 9);
        due("longer than what it comes from", x.copy(0, 0, 4, 0, 5), -13);
        due("longer than where it comes to", x.copy(4, 0, 0, 0, 5), -13);
    }

    private static void copied(int from, int to, int n, int... want) {
        TwiceAsRich x = new TwiceAsRich();
        Calls.putRow(x, 5, Calls.SHORTS, 1, 2, 3, 4, 5);
        due("copy(5, " + from + ", 5, " + to + ", " + n + ")", x.copy(5, from, 5, to, n), n);
        for (int i = 0; i < want.length; i++) {
            due("element " + i + " of " + from + ", " + to + ", " + n, Calls.element(x, 5, i), want[i]);
        }
    }

    private static void copy() {
        CHECKS.promise("32 copy");
        copied(0, 1, 4, 1, 1, 2, 3, 4);
        copied(1, 0, 4, 2, 3, 4, 5, 5);
        copied(0, 0, 5, 1, 2, 3, 4, 5);
        copied(5, 0, 0, 1, 2, 3, 4, 5);
        copied(0, 5, 0, 1, 2, 3, 4, 5);
        for (int sort = 0; sort < 3; sort++) {
            TwiceAsRich x = new TwiceAsRich();
            Calls.putRow(x, 0, sort, -7, 100, 9);
            x.row(6, sort, 5);
            due("copy(0, 1, 6, 3, 2)", x.copy(0, 1, 6, 3, 2), 2);
            due("ahead of them", Calls.element(x, 6, 2), 0);
            due("the first", Calls.element(x, 6, 3), 100);
            due("the last", Calls.element(x, 6, 4), 9);
            due("what was taken stays", Calls.element(x, 0, 1), 100);
            x.put(0, 1, 3);
            due("each has its own", Calls.element(x, 6, 3), 100);
        }
    }

    private static void shelfRefusals(String call, TwiceAsRich x, boolean isFee) {
        for (int d : NO_SHELVES) {
            due(call + "(" + d + ")", isFee ? x.fee(d) : x.toss(d), -1);
        }
        due(call + " of nothing", isFee ? x.fee(0) : x.toss(0), -11);
        for (int sort = 0; sort < 3; sort++) {
            x.row(0, sort, 3);
            due(call + " of a row", isFee ? x.fee(0) : x.toss(0), -12);
        }
    }

    private static void fee() {
        CHECKS.promise("33 fee");
        shelfRefusals("fee", new TwiceAsRich(), true);
        TwiceAsRich x = new TwiceAsRich();
        for (int f = 0; f < 10; f++) {
            int[] fees = {5, 5 * (f + 1), 3, 8, 5 * (f + 1) + 1, 3 + f, 5 * (f + 1) - f, 16};
            for (int k = 0; k < 8; k++) {
                x.keep(0, 1, k, f);
                due("fee of kind " + k + ", figure " + f, x.fee(0), fees[k]);
            }
        }
    }

    private static void toss() {
        CHECKS.promise("34 toss");
        shelfRefusals("toss", new TwiceAsRich(), false);
        TwiceAsRich x = new TwiceAsRich();
        for (int f = 0; f < 10; f++) {
            int[] tossed = {f, f, f, -15, f, 100 + f, 200 + 5 * (f + 1) - f, f};
            for (int k = 0; k < 8; k++) {
                x.keep(0, 1, k, f);
                due("toss of kind " + k + ", figure " + f, x.toss(0), f == 0 ? -15 : tossed[k]);
                due("toss again", x.toss(0), f == 0 ? -15 : tossed[k]);
            }
        }
    }
}
