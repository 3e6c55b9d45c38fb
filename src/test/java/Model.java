import java.util.ArrayDeque;
import java.util.ArrayList;
import java.util.Arrays;
import java.util.HashMap;
import java.util.List;
import java.util.Map;
import java.util.function.Consumer;
import java.util.function.Predicate;
import java.util.regex.Matcher;
import java.util.regex.Pattern;

/** The document told once more, in other ways than the class has: tables, searches, patterns. */
final class Model {
    private static final int NONE = -4;

    static final class House {
        final int kind;
        final int figure;
        int purse;

        House(int kind, int figure, int purse) {
            this.kind = kind;
            this.figure = figure;
            this.purse = purse;
        }

        House twin() {
            return new House(kind, figure, purse);
        }

        /** -4 if it is not looked at. */
        int shows() {
            int[] shows = {purse, purse, 9 * purse / 10, NONE, purse / 2, 9 * purse / 10 + figure, purse, purse};
            return shows[kind];
        }

        long mayHave(int x) {
            long[] may = {
                2L * x, 2L * x + figure, 2L * x, 9999, Math.max(0, 2L * x + figure - 1), 2L * x,
                4L * x + 2 * figure, 9999,
            };
            return may[kind];
        }

        int earns() {
            int[] earns = {2, 2 + figure, 1, 0, 1 + figure, 0, 4 + 2 * figure, figure};
            return earns[kind];
        }

        int fee() {
            int heir = 5 * figure + 5;
            int[] fees = {5, heir, 3, 8, heir + 1, 3 + figure, heir - figure, 16};
            return fees[kind];
        }
    }

    private List<House> houses = new ArrayList<>();
    private int round;
    private List<House> imaged;
    private int imagedRound;
    // A House, a row (long[] with the sort ahead of its elements), or null.
    private final Object[] shelves = new Object[8];

    private static List<House> copied(List<House> houses) {
        List<House> copy = new ArrayList<>();
        for (House house : houses) {
            copy.add(house.twin());
        }
        return copy;
    }

    private static List<Integer> beside(List<House> houses, int round, int i) {
        List<Integer> beside = new ArrayList<>();
        for (int j = 0; j < houses.size(); j++) {
            int apart = Math.abs(i - j);
            if (apart == 1 || round == 1 && houses.size() >= 3 && apart == houses.size() - 1) {
                beside.add(j);
            }
        }
        return beside;
    }

    /** Those beside i by which it has more than it may, if it had so many coins more. */
    private static List<Integer> above(List<House> houses, int round, int i, int more) {
        List<Integer> above = new ArrayList<>();
        for (int j : beside(houses, round, i)) {
            int shows = houses.get(j).shows();
            if (shows != NONE && houses.get(i).purse + more > houses.get(i).mayHave(shows)) {
                above.add(j);
            }
        }
        return above;
    }

    private static int breaches(List<House> houses, int round) {
        int all = 0;
        for (int i = 0; i < houses.size(); i++) {
            all += above(houses, round, i, 0).size();
        }
        return all;
    }

    private static int most(List<House> houses, int round, int i) {
        long most = 9999;
        for (int j : beside(houses, round, i)) {
            int shows = houses.get(j).shows();
            if (shows != NONE) {
                most = Math.min(most, houses.get(i).mayHave(shows));
            }
        }
        return (int) most;
    }

    private static int coins(List<House> houses) {
        int all = 0;
        for (House house : houses) {
            all += house.purse;
        }
        return all;
    }

    private boolean has(int house) {
        return house >= 0 && house < houses.size();
    }

    private static boolean isIn(int number, int least, int greatest) {
        return number >= least && number <= greatest;
    }

    // ---- streets

    private static final String STATEMENT = "h(\\d)(\\d)(\\d{1,4});|r(\\d);|g(\\d)(\\d)(\\d{1,4});|m(\\d)(\\d);|u;";
    private static final Pattern ONE = Pattern.compile(STATEMENT);
    private static final Pattern ALL = Pattern.compile("(?:" + STATEMENT + ")+");

    int street(int d) {
        int refusal = rowRefusal(d, 0);
        if (refusal != 0) {
            return refusal;
        }
        long[] row = (long[]) shelves[d];
        StringBuilder text = new StringBuilder();
        for (int i = 1; i < row.length; i++) {
            text.append((char) (row[i] & 255));
        }
        int good = 0;
        while (good < text.length() && canGoOn(text.substring(0, good + 1))) {
            good++;
        }
        if (good < text.length() || !ALL.matcher(text).matches()) {
            return -1000 - good;
        }
        List<House> trial = copied(houses);
        int[] turned = {round};
        int done = 0;
        Matcher statements = ONE.matcher(text);
        while (statements.find()) {
            if (!isDone(statements, trial, turned)) {
                return -2000 - statements.start();
            }
            done++;
        }
        houses = trial;
        round = turned[0];
        return done;
    }

    private static boolean canGoOn(String text) {
        Matcher all = ALL.matcher(text);
        return all.matches() || all.hitEnd();
    }

    private static boolean isDone(Matcher s, List<House> trial, int[] turned) {
        switch (s.group().charAt(0)) {
            case 'h':
                if (Integer.parseInt(s.group(1)) > 7 || trial.size() == 8) {
                    return false;
                }
                trial.add(new House(Integer.parseInt(s.group(1)), Integer.parseInt(s.group(2)), Integer.parseInt(s.group(3))));
                return true;
            case 'r':
                turned[0] = Integer.parseInt(s.group(4));
                return turned[0] < 2;
            case 'g':
                return given(trial, Integer.parseInt(s.group(5)), Integer.parseInt(s.group(6)), Integer.parseInt(s.group(7))) == 0;
            case 'm':
                int one = Integer.parseInt(s.group(8));
                int other = Integer.parseInt(s.group(9));
                if (one == other || Math.max(one, other) >= trial.size()) {
                    return false;
                }
                java.util.Collections.swap(trial, one, other);
                return true;
            default:
                if (trial.isEmpty()) {
                    return false;
                }
                trial.remove(trial.size() - 1);
                return true;
        }
    }

    private static int given(List<House> houses, int one, int other, int coins) {
        if (!isIn(one, 0, houses.size() - 1) || !isIn(other, 0, houses.size() - 1) || one == other || coins < 1) {
            return -1;
        }
        if (coins > houses.get(one).purse) {
            return -3;
        }
        if (coins > 9999 - houses.get(other).purse) {
            return -2;
        }
        houses.get(one).purse -= coins;
        houses.get(other).purse += coins;
        return 0;
    }

    int house(int house, int what) {
        if (!has(house) || !isIn(what, 0, 5)) {
            return -1;
        }
        House h = houses.get(house);
        int[] told = {h.kind, h.figure, h.purse, h.shows(), most(houses, round, house), h.earns()};
        return told[what];
    }

    int comes(int d, int purse) {
        if (!isIn(d, 0, 7) || !isIn(purse, 0, 9999)) {
            return -1;
        }
        if (!(shelves[d] instanceof House)) {
            return shelves[d] == null ? -11 : -12;
        }
        if (houses.size() == 8) {
            return -2;
        }
        House kept = (House) shelves[d];
        houses.add(new House(kept.kind, kept.figure, purse));
        return houses.size() - 1;
    }

    int round(int v) {
        if (!isIn(v, 0, 1)) {
            return -1;
        }
        int before = round;
        round = v;
        return before;
    }

    int give(int one, int other, int coins) {
        int refusal = given(houses, one, other, coins);
        return refusal != 0 ? refusal : houses.get(one).purse;
    }

    int weeks(int n) {
        if (!isIn(n, 1, 99)) {
            return -1;
        }
        for (int week = 0; week < n; week++) {
            for (House house : houses) {
                house.purse = Math.min(9999, house.purse + house.earns());
            }
        }
        return coins(houses);
    }

    // ---- lawful or not

    int lawful() {
        return breaches(houses, round) == 0 ? 1 : 0;
    }

    int breaches(int house) {
        if (house == -1) {
            return breaches(houses, round);
        }
        return has(house) ? above(houses, round, house, 0).size() : -1;
    }

    int held(int house) {
        if (!has(house)) {
            return -1;
        }
        int bits = 0;
        for (int j : above(houses, round, house, 1)) {
            bits += 1 << j;
        }
        return bits;
    }

    int free() {
        int bits = 0;
        for (int i = 0; i < houses.size(); i++) {
            if (houses.get(i).purse <= 9998 && above(houses, round, i, 1).isEmpty()) {
                bits += 1 << i;
            }
        }
        return bits;
    }

    // ---- partings, gifts

    private void eachParting(int n, Consumer<int[]> told) {
        int[] parts = new int[houses.size()];
        Arrays.fill(parts, 1);
        if (parts.length == 0) {
            if (n == 0) {
                told.accept(parts);
            }
            return;
        }
        while (parts[0] <= n) {
            if (Arrays.stream(parts).sum() == n && isLawful(parts)) {
                told.accept(parts);
            }
            int i = parts.length - 1;
            parts[i]++;
            while (i > 0 && (parts[i] > n || Arrays.stream(parts).sum() > n)) {
                parts[i--] = 1;
                parts[i]++;
            }
        }
    }

    private boolean isLawful(int[] parts) {
        List<House> trial = copied(houses);
        for (int i = 0; i < parts.length; i++) {
            trial.get(i).purse = parts[i];
        }
        return breaches(trial, round) == 0;
    }

    private int partingRefusal(int n) {
        if (!isIn(n, 0, 20)) {
            return -1;
        }
        return houses.size() > 6 ? -3 : 0;
    }

    int partings(int n) {
        int refusal = partingRefusal(n);
        if (refusal != 0) {
            return refusal;
        }
        int[] ways = {0};
        eachParting(n, parts -> ways[0]++);
        return ways[0];
    }

    int uneven(int n) {
        int refusal = partingRefusal(n);
        if (refusal != 0) {
            return refusal;
        }
        int[] greatest = {NONE};
        eachParting(n, parts -> {
            greatest[0] = Math.max(greatest[0], 0);
            for (int a : parts) {
                for (int b : parts) {
                    greatest[0] = Math.max(greatest[0], a - b);
                }
            }
        });
        return greatest[0];
    }

    int richest(int n, int house) {
        if (!has(house)) {
            return -1;
        }
        int refusal = partingRefusal(n);
        if (refusal != 0) {
            return refusal;
        }
        int[] most = {NONE};
        eachParting(n, parts -> most[0] = Math.max(most[0], parts[house]));
        return most[0];
    }

    int hands() {
        return fewest(true);
    }

    int any() {
        return fewest(false);
    }

    /** By search from the purses as they are, coin by coin, until a street is as it must be. */
    private int fewest(boolean besideOnly) {
        if (houses.size() > 6 || coins(houses) > 20) {
            return -3;
        }
        int[] start = new int[houses.size()];
        for (int i = 0; i < start.length; i++) {
            start[i] = houses.get(i).purse;
        }
        Predicate<int[]> isGood = purses -> Arrays.stream(purses).allMatch(purse -> purse >= 1) && isLawful(purses);
        Map<String, Integer> steps = new HashMap<>();
        ArrayDeque<int[]> waiting = new ArrayDeque<>();
        steps.put(Arrays.toString(start), 0);
        waiting.add(start);
        while (!waiting.isEmpty()) {
            int[] now = waiting.remove();
            int taken = steps.get(Arrays.toString(now));
            if (isGood.test(now)) {
                return taken;
            }
            for (int i = 0; i < now.length; i++) {
                for (int j = 0; j < now.length; j++) {
                    if (i == j || now[i] == 0 || besideOnly && Math.abs(i - j) != 1) {
                        continue;
                    }
                    int[] then = now.clone();
                    then[i]--;
                    then[j]++;
                    if (steps.putIfAbsent(Arrays.toString(then), taken + 1) == null) {
                        waiting.add(then);
                    }
                }
            }
        }
        return NONE;
    }

    // ---- houses moved

    int change(int what) {
        if (!isIn(what, 0, 1)) {
            return -1;
        }
        int bestKey = Integer.MAX_VALUE;
        for (int i = 0; i < houses.size(); i++) {
            for (int j = i + 1; j < houses.size(); j++) {
                List<House> trial = copied(houses);
                java.util.Collections.swap(trial, i, j);
                bestKey = Math.min(bestKey, breaches(trial, round) * 100 + 10 * i + j);
            }
        }
        if (bestKey == Integer.MAX_VALUE || bestKey / 100 >= breaches(houses, round)) {
            return NONE;
        }
        return what == 0 ? bestKey % 100 : bestKey / 100;
    }

    int wedding(int house) {
        if (!isIn(house, 0, houses.size() - 2)) {
            return -1;
        }
        int other = house + 1;
        List<House> trial = new ArrayList<>();
        for (int i = 0; i < houses.size(); i++) {
            if (i == house) {
                House one = houses.get(house);
                trial.add(new House(one.kind, one.figure, Math.min(9999, one.purse + houses.get(other).purse)));
            } else if (i != other) {
                trial.add(houses.get(i).twin());
            }
        }
        return breaches(trial, round);
    }

    int worth(int house, int purse) {
        if (!has(house) || !isIn(purse, 0, 9999)) {
            return -1000000001;
        }
        List<House> trial = copied(houses);
        trial.add(house + 1, new House(0, 0, purse));
        return most(trial, round, house) - most(houses, round, house);
    }

    // ---- what fits, gifts, taxes

    int fitting(int house, int what) {
        if (!has(house) || !isIn(what, 0, 2)) {
            return -1;
        }
        List<Integer> fit = new ArrayList<>();
        List<House> trial = copied(houses);
        for (int purse = 0; purse <= 99; purse++) {
            trial.get(house).purse = purse;
            if (breaches(trial, round) == 0) {
                fit.add(purse);
            }
        }
        if (what == 0) {
            return fit.size();
        }
        if (fit.isEmpty()) {
            return NONE;
        }
        return what == 1 ? fit.get(0) : fit.get(fit.size() - 1);
    }

    int given(int d, int what) {
        if (!isIn(d, 0, 7) || !isIn(what, 0, 1)) {
            return -1;
        }
        int refusal = rowRefusal(d, 1);
        if (refusal != 0) {
            return refusal;
        }
        long[] row = (long[]) shelves[d];
        int size = row.length - 1;
        if (size % 3 != 0 || size / 3 > 8) {
            return -13;
        }
        for (int at = 1; at < size; at += 3) {
            if (!has((int) row[at]) || !has((int) row[at + 1]) || row[at] == row[at + 1] || !isIn((int) row[at + 2], 1, 9999)) {
                return -13;
            }
        }
        List<House> trial = copied(houses);
        int many = 0;
        for (int at = 1; at < size; at += 3) {
            many += given(trial, (int) row[at], (int) row[at + 1], (int) row[at + 2]) == 0 ? 1 : 0;
        }
        return what == 0 ? breaches(trial, round) : many;
    }

    int tax(int level) {
        if (!isIn(level, 0, 9999)) {
            return -1;
        }
        int left = coins(houses);
        for (House house : houses) {
            left -= Math.max(0, house.purse - level);
        }
        return left;
    }

    int seeded(int n, int seed) {
        if (!isIn(n, 1, 40)) {
            return -1;
        }
        if (houses.isEmpty()) {
            return -3;
        }
        List<House> trial = copied(houses);
        int size = trial.size();
        long z = seed & 0xffffffffL;
        int lawful = 0;
        for (int night = 0; night < n; night++) {
            z = (z * 1103515245L + 12345L) % (1L << 32);
            int thief = (int) (z % (1L << 31) >> 16) % size;
            z = (z * 1103515245L + 12345L) % (1L << 32);
            int robbed = (z % (1L << 31) >> 16) % 2 == 0 ? thief - 1 : thief + 1;
            if (round == 1 && size >= 3) {
                robbed = (robbed + size) % size;
            }
            if (isIn(robbed, 0, size - 1) && trial.get(robbed).purse > 0 && trial.get(thief).purse < 9999) {
                trial.get(robbed).purse--;
                trial.get(thief).purse++;
            }
            lawful += breaches(trial, round) == 0 ? 1 : 0;
        }
        return lawful;
    }

    int judge(int d) {
        int refusal = rowRefusal(d, -1);
        if (refusal != 0) {
            return refusal;
        }
        long[] row = (long[]) shelves[d];
        long[] least = {Byte.MIN_VALUE, Short.MIN_VALUE, Integer.MIN_VALUE};
        for (int i = 0; i < Math.max(houses.size(), row.length - 1); i++) {
            if (i >= row.length - 1 || i >= houses.size()) {
                return i;
            }
            if (row[i + 1] != least[(int) row[0]] && row[i + 1] != houses.get(i).purse) {
                return i;
            }
        }
        return NONE;
    }

    // ---- the image, what is told

    int image() {
        imaged = copied(houses);
        imagedRound = round;
        return coins(houses);
    }

    int restore() {
        if (imaged == null) {
            return -3;
        }
        houses = copied(imaged);
        round = imagedRound;
        return coins(houses);
    }

    int count(int what) {
        if (!isIn(what, 0, 3)) {
            return -1;
        }
        int lawful = 0;
        for (int i = 0; i < houses.size(); i++) {
            lawful += above(houses, round, i, 0).isEmpty() ? 1 : 0;
        }
        int[] told = {houses.size(), round, coins(houses), lawful};
        return told[what];
    }

    // ---- shelves

    private int rowRefusal(int d, int sort) {
        if (!isIn(d, 0, 7)) {
            return -1;
        }
        if (shelves[d] == null) {
            return -11;
        }
        if (!(shelves[d] instanceof long[])) {
            return -12;
        }
        return sort == -1 || ((long[]) shelves[d])[0] == sort ? 0 : -12;
    }

    int keep(int d, int what, int k, int figure) {
        if (!isIn(d, 0, 7) || !isIn(what, 0, 1) || what == 1 && !(isIn(k, 0, 7) && isIn(figure, 0, 9))) {
            return -1;
        }
        shelves[d] = what == 0 ? null : new House(k, figure, 0);
        return 0;
    }

    int row(int d, int sort, int n) {
        if (!isIn(d, 0, 7) || !isIn(sort, 0, 2) || n > 100) {
            return -1;
        }
        if (n < 0) {
            return -14;
        }
        long[] row = new long[n + 1];
        row[0] = sort;
        shelves[d] = row;
        return 0;
    }

    int put(int d, int i, int v) {
        int refusal = rowRefusal(d, -1);
        if (refusal != 0) {
            return refusal;
        }
        long[] row = (long[]) shelves[d];
        if (!isIn(i, 0, row.length - 2)) {
            return -13;
        }
        long span = 1L << (8 << row[0]);
        long bits = Math.floorMod((long) v, span);
        row[i + 1] = bits >= span / 2 ? bits - span : bits;
        return 0;
    }

    long element(int d, int i) {
        if (!isIn(d, 0, 7)) {
            return Calls.NO_SHELF;
        }
        if (rowRefusal(d, -1) != 0 || !isIn(i, 0, ((long[]) shelves[d]).length - 2)) {
            return Calls.NO_ELEMENT;
        }
        return ((long[]) shelves[d])[i + 1];
    }

    int copy(int d, int i, int e, int j, int n) {
        if (!isIn(d, 0, 7) || !isIn(e, 0, 7)) {
            return -1;
        }
        if (shelves[d] == null || shelves[e] == null) {
            return -11;
        }
        if (rowRefusal(d, -1) != 0 || rowRefusal(e, (int) ((long[]) shelves[d])[0]) != 0) {
            return -12;
        }
        long[] from = (long[]) shelves[d];
        long[] to = (long[]) shelves[e];
        if (n < 0 || i < 0 || j < 0 || (long) i + n > from.length - 1 || (long) j + n > to.length - 1) {
            return -13;
        }
        long[] taken = Arrays.copyOfRange(from, i + 1, i + 1 + n);
        for (int k = 0; k < n; k++) {
            to[j + 1 + k] = taken[k];
        }
        return n;
    }

    int fee(int d) {
        if (!isIn(d, 0, 7)) {
            return -1;
        }
        if (!(shelves[d] instanceof House)) {
            return shelves[d] == null ? -11 : -12;
        }
        return ((House) shelves[d]).fee();
    }

    int toss(int d) {
        if (fee(d) < 0) {
            return fee(d);
        }
        House kept = (House) shelves[d];
        if (kept.figure == 0 || kept.kind == 3) {
            return -15;
        }
        if (kept.kind == 6) {
            return 200 + kept.fee();
        }
        return kept.kind == 5 ? 100 + kept.figure : kept.figure;
    }
}
