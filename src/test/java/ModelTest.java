import java.util.Random;

/** Runs of calls drawn by chance (always the same ones), each answer beside the model's. */
public final class ModelTest {
    private static final int RUNS = 2000;
    // An object is promised for 512 calls; a step makes some 110 at most.
    private static final int LAST_STEP_FROM = 400;
    private static final int[] FAR = {Integer.MIN_VALUE, Integer.MAX_VALUE, -1, -2, 10000, 1 << 30, -1000000000};
    private static final String[] NAMES = {
        "street", "house", "comes", "round", "give", "weeks", "lawful", "breaches", "held", "free", "partings",
        "uneven", "richest", "hands", "any", "change", "wedding", "worth", "fitting", "given", "tax", "seeded",
        "judge", "image", "restore", "count", "keep", "row", "put", "element", "copy", "fee", "toss",
    };

    private final Random chance;
    private final Checks checks;
    private final int greatestPurse;
    private final int mostHouses;
    private final TwiceAsRich x = new TwiceAsRich();
    private final Model model = new Model();
    private int calls;

    private ModelTest(int run, Checks checks) {
        this.chance = new Random(run);
        this.checks = checks;
        int[] purses = {4, 9, 30, 120, 9999};
        this.greatestPurse = purses[run % purses.length];
        this.mostHouses = 2 + run / purses.length % 7;
        checks.promise("run " + run);
    }

    public static void main(String[] args) {
        Checks checks = new Checks();
        for (int run = 0; run < RUNS; run++) {
            ModelTest test = new ModelTest(run, checks);
            while (test.calls < LAST_STEP_FROM) {
                test.step();
            }
        }
        checks.end();
    }

    private void due(String call, long got, long want, int... with) {
        StringBuilder told = new StringBuilder(call);
        for (int i = 0; i < with.length; i++) {
            told.append(i == 0 ? "(" : ", ").append(with[i]);
        }
        checks.due(told.toString(), got, want);
        calls++;
    }

    // Mostly 0 .. n - 1, now and then beside it, rarely far from it.
    private int about(int n) {
        int kind = chance.nextInt(30);
        if (kind == 0) {
            return FAR[chance.nextInt(FAR.length)];
        }
        if (kind == 1) {
            return chance.nextBoolean() ? -1 : n;
        }
        return chance.nextInt(Math.max(1, n));
    }

    private int aHouse() {
        return about(model.count(0));
    }

    private void step() {
        if (chance.nextInt(3) == 0 || model.count(0) == 0) {
            prepare();
        } else {
            call(NAMES[chance.nextInt(NAMES.length)]);
        }
    }

    private void prepare() {
        switch (chance.nextInt(4)) {
            case 0:
                putText(chance.nextInt(8), aText());
                break;
            case 1:
                putGifts(chance.nextInt(8));
                break;
            case 2:
                putPurses(chance.nextInt(8));
                break;
            default:
                call("keep");
                call("comes");
                break;
        }
    }

    private void putRow(int d, int sort, int[] elements) {
        due("row", x.row(d, sort, elements.length), model.row(d, sort, elements.length), d, sort, elements.length);
        for (int i = 0; i < elements.length; i++) {
            x.put(d, i, elements[i]);
            model.put(d, i, elements[i]);
            calls++;
        }
    }

    private void putText(int d, String text) {
        putRow(d, 0, text.chars().limit(100).toArray());
        due("street of " + text, x.street(d), model.street(d));
    }

    private String aText() {
        StringBuilder text = new StringBuilder();
        int statements = 1 + chance.nextInt(5);
        if (model.count(0) >= mostHouses) {
            text.append("u;u;");
        }
        for (int i = 0; i < statements; i++) {
            text.append(aStatement());
        }
        if (chance.nextInt(8) == 0) {
            text.setCharAt(chance.nextInt(text.length()), "hrgmu;0189/: \u00ff\u0080\u0000".charAt(chance.nextInt(15)));
        }
        if (chance.nextInt(12) == 0) {
            text.setLength(chance.nextInt(text.length()));
        }
        return text.toString();
    }

    private String aStatement() {
        int kinds = chance.nextInt(20) == 0 ? 10 : 8;
        int who = Math.min(10, Math.max(1, model.count(0) + chance.nextInt(2)));
        String zeros = chance.nextInt(10) == 0 ? "0" : "";
        switch (chance.nextInt(8)) {
            case 0: return "r" + chance.nextInt(chance.nextInt(10) == 0 ? 10 : 2) + ";";
            case 1: return "g" + chance.nextInt(who) + chance.nextInt(who) + zeros + chance.nextInt(greatestPurse / 2 + 1) + ";";
            case 2: return "m" + chance.nextInt(who) + chance.nextInt(who) + ";";
            case 3: return "u;";
            default: return "h" + chance.nextInt(kinds) + chance.nextInt(10) + zeros + chance.nextInt(greatestPurse + 1) + ";";
        }
    }

    private void putGifts(int d) {
        int[] gifts = new int[3 * chance.nextInt(10) + (chance.nextInt(10) == 0 ? 1 : 0)];
        for (int i = 0; i < gifts.length; i++) {
            gifts[i] = i % 3 == 2 ? 1 + chance.nextInt(greatestPurse) : chance.nextInt(Math.max(1, model.count(0)));
            if (i % 3 == 1 && gifts[i] == gifts[i - 1]) {
                gifts[i] = (gifts[i] + 1) % Math.max(2, model.count(0));
            }
            if (chance.nextInt(80) == 0) {
                gifts[i] = about(5);
            }
        }
        putRow(d, chance.nextInt(10) == 0 ? chance.nextInt(3) : 1, gifts);
        int what = about(2);
        due("given", x.given(d, what), model.given(d, what), d, what);
    }

    private void putPurses(int d) {
        int sort = chance.nextInt(3);
        int[] purses = new int[Math.max(0, model.count(0) + (chance.nextInt(4) == 0 ? chance.nextInt(5) - 2 : 0))];
        for (int i = 0; i < purses.length; i++) {
            purses[i] = i < model.count(0) ? model.house(i, 2) : chance.nextInt(5);
            if (chance.nextInt(6) == 0) {
                purses[i] = new int[] {-128, -32768, Integer.MIN_VALUE}[chance.nextInt(8) == 0 ? chance.nextInt(3) : sort];
            }
            if (chance.nextInt(20) == 0) {
                purses[i]++;
            }
        }
        putRow(d, sort, purses);
        due("judge", x.judge(d), model.judge(d), d);
    }

    private void call(String name) {
        int d = about(8);
        int e = about(8);
        int house = aHouse();
        switch (name) {
            case "street": due(name, x.street(d), model.street(d), d); break;
            case "house": callHouse(); break;
            case "comes": callComes(d); break;
            case "round": callRound(); break;
            case "give": callGive(house); break;
            case "weeks": callWeeks(); break;
            case "lawful": due(name, x.lawful(), model.lawful()); break;
            case "breaches": due(name, x.breaches(house), model.breaches(house), house); break;
            case "held": due(name, x.held(house), model.held(house), house); break;
            case "free": due(name, x.free(), model.free()); break;
            case "partings": case "uneven": case "richest": callParting(name, house); break;
            case "hands": if (isQuick()) due(name, x.hands(), model.hands()); break;
            case "any": if (isQuick()) due(name, x.any(), model.any()); break;
            case "change": callChange(); break;
            case "wedding": due(name, x.wedding(house), model.wedding(house), house); break;
            case "worth": callWorth(house); break;
            case "fitting": callFitting(house); break;
            case "given": due(name, x.given(d, e & 1), model.given(d, e & 1), d, e & 1); break;
            case "tax": callTax(); break;
            case "seeded": callSeeded(); break;
            case "judge": due(name, x.judge(d), model.judge(d), d); break;
            default: callShelf(name, d, e); break;
        }
    }

    private void callShelf(String name, int d, int e) {
        int i = about(20);
        switch (name) {
            case "image": if (chance.nextInt(3) == 0) due(name, x.image(), model.image()); break;
            case "restore": if (chance.nextInt(3) == 0) due(name, x.restore(), model.restore()); break;
            case "count": int what = about(4); due(name, x.count(what), model.count(what), what); break;
            case "keep": callKeep(d); break;
            case "row": int n = about(60); due(name, x.row(d, e % 3, n), model.row(d, e % 3, n), d, e % 3, n); break;
            case "put": int v = chance.nextInt(); due(name, x.put(d, i, v), model.put(d, i, v), d, i, v); break;
            case "element": due(name, Calls.element(x, d, i), model.element(d, i), d, i); break;
            case "copy": callCopy(d, e, i); break;
            case "fee": due(name, x.fee(d), model.fee(d), d); break;
            default: due(name, x.toss(d), model.toss(d), d); break;
        }
    }

    private void callHouse() {
        int house = aHouse();
        int what = about(6);
        due("house", x.house(house, what), model.house(house, what), house, what);
    }

    private void callComes(int d) {
        if (model.count(0) > mostHouses) {
            return;
        }
        int purse = chance.nextInt(20) == 0 ? FAR[chance.nextInt(FAR.length)] : chance.nextInt(greatestPurse + 1);
        due("comes", x.comes(d, purse), model.comes(d, purse), d, purse);
    }

    private void callRound() {
        int v = about(2);
        due("round", x.round(v), model.round(v), v);
    }

    private void callGive(int one) {
        int other = aHouse();
        int coins = about(greatestPurse / 2 + 1);
        due("give", x.give(one, other, coins), model.give(one, other, coins), one, other, coins);
    }

    private void callWeeks() {
        int n = greatestPurse < 100 && chance.nextInt(4) != 0 ? chance.nextInt(2) : about(100);
        due("weeks", x.weeks(n), model.weeks(n), n);
    }

    private void callParting(String name, int house) {
        int n = about(model.count(0) > 4 ? 13 : 21);
        switch (name) {
            case "partings": due(name, x.partings(n), model.partings(n), n); break;
            case "uneven": due(name, x.uneven(n), model.uneven(n), n); break;
            default: due(name, x.richest(n, house), model.richest(n, house), n, house); break;
        }
    }

    // The model's search goes over all partings there are, which are too many for many coins.
    private boolean isQuick() {
        return model.count(0) < 5 || model.count(0) > 6 || model.count(2) > 20 || model.count(2) < 11;
    }

    private void callChange() {
        int what = about(2);
        due("change", x.change(what), model.change(what), what);
    }

    private void callWorth(int house) {
        int purse = chance.nextInt(10) == 0 ? about(10000) : about(greatestPurse);
        due("worth", x.worth(house, purse), model.worth(house, purse), house, purse);
    }

    private void callFitting(int house) {
        int what = about(3);
        due("fitting", x.fitting(house, what), model.fitting(house, what), house, what);
    }

    private void callTax() {
        int level = chance.nextInt(10) == 0 ? about(10000) : about(greatestPurse);
        due("tax", x.tax(level), model.tax(level), level);
    }

    private void callSeeded() {
        int n = about(41);
        int z = chance.nextInt();
        due("seeded", x.seeded(n, z), model.seeded(n, z), n, z);
    }

    private void callKeep(int d) {
        int what = chance.nextInt(6) == 0 ? about(2) : 1;
        int kind = about(8);
        int figure = about(10);
        due("keep", x.keep(d, what, kind, figure), model.keep(d, what, kind, figure), d, what, kind, figure);
    }

    private void callCopy(int d, int e, int i) {
        int j = about(20);
        int n = about(12);
        due("copy", x.copy(d, i, e, j, n), model.copy(d, i, e, j, n), d, i, e, j, n);
    }
}
