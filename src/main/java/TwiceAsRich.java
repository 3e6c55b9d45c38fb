import java.util.Arrays;

/** Nobody more than twice as rich as who's beside him: a street of houses of kinds with purses. */
public final class TwiceAsRich {
    private static final int ROOM = 8;
    private static final int MOST_KINDS = 8;
    private static final int MOST_FIGURE = 9;
    private static final int MOST_COINS = 9999;

    private static final int SHELVES = 8;
    private static final int MOST_ELEMENTS = 100;
    private static final int NO_ROW = -1;
    private static final int BYTES = 0;
    private static final int SHORTS = 1;
    private static final int INTS = 2;

    private static final int PARTED_HOUSES = 6;
    private static final int PARTED_COINS = 20;
    private static final int MOST_WEEKS = 99;
    private static final int MOST_NIGHTS = 40;
    private static final int FITTING_PURSES = 100;
    private static final int GIFT_SIZE = 3;
    private static final int MOST_GIFTS = 8;

    private static final int NO_REFUSAL = 0;
    private static final int NOT_AS_TOLD = -1;
    private static final int NO_ROOM = -2;
    private static final int NOT_NOW = -3;
    private static final int NONE = -4;
    private static final int NOTHING_HELD = -11;
    private static final int OTHER_KIND = -12;
    private static final int NO_PLACE = -13;
    private static final int SIZE_BELOW_ZERO = -14;
    private static final int NO_FAILURE = -15;
    private static final int BELOW_ALL_NUMBERS = -1000000000;

    private static final int NOBODY = -1;
    // Above all that any house may have by another.
    private static final int NO_LIMIT = 1000000;

    private final Street street = new Street();
    private final Street image = new Street();
    private boolean imageTaken;
    // What a call only has in mind is tried here, so that no call makes a street of its own.
    private final Street mind = new Street();
    private final House plainHouse = new House(0);
    private final Partings partings = new Partings();
    private final StreetText text = new StreetText();

    // A shelf holds a house (kept), a row (its sort, size and elements), or nothing.
    private final House[] kept = new House[SHELVES];
    private final int[] sorts = new int[SHELVES];
    private final int[] sizes = new int[SHELVES];
    private final int[][] rows = new int[SHELVES][MOST_ELEMENTS];

    public TwiceAsRich() {
        Arrays.fill(sorts, NO_ROW);
    }

    // ---- streets

    public int street(int d) {
        int refusal = sortRefusal(d, BYTES);
        if (refusal != NO_REFUSAL) {
            return refusal;
        }
        text.open(rows[d], sizes[d]);
        int broken = text.brokenPlace();
        if (broken >= 0) {
            return -1000 - broken;
        }
        mind.become(street);
        int wrong = text.wrongPlace(mind);
        if (wrong >= 0) {
            return -2000 - wrong;
        }
        street.become(mind);
        return text.statements();
    }

    public int house(int house, int what) {
        if (!street.has(house)) {
            return NOT_AS_TOLD;
        }
        House asked = street.houses[house];
        switch (what) {
            case 0: return asked.kind();
            case 1: return asked.figure;
            case 2: return street.purses[house];
            case 3: return asked.isLookedAt() ? asked.shownOf(street.purses[house]) : NONE;
            case 4: return street.mostOf(house);
            case 5: return asked.weekly();
            default: return NOT_AS_TOLD;
        }
    }

    public int comes(int d, int purse) {
        if (!isPurse(purse)) {
            return NOT_AS_TOLD;
        }
        int refusal = houseRefusal(d);
        if (refusal != NO_REFUSAL) {
            return refusal;
        }
        if (street.count >= ROOM) {
            return NO_ROOM;
        }
        street.insert(street.count, kept[d], purse);
        return street.count - 1;
    }

    public int round(int v) {
        if (v != 0 && v != 1) {
            return NOT_AS_TOLD;
        }
        int before = street.round;
        street.round = v;
        return before;
    }

    public int give(int one, int other, int coins) {
        int refusal = street.gift(one, other, coins);
        return refusal != NO_REFUSAL ? refusal : street.purses[one];
    }

    public int weeks(int n) {
        if (n < 1 || n > MOST_WEEKS) {
            return NOT_AS_TOLD;
        }
        street.earn(n);
        return street.allCoins();
    }

    // ---- lawful or not

    public int lawful() {
        return street.allBreaches() == 0 ? 1 : 0;
    }

    public int breaches(int house) {
        if (house == -1) {
            return street.allBreaches();
        }
        return street.has(house) ? street.breachesOf(house) : NOT_AS_TOLD;
    }

    public int held(int house) {
        return street.has(house) ? street.holdersOf(house) : NOT_AS_TOLD;
    }

    public int free() {
        int bits = 0;
        for (int i = 0; i < street.count; i++) {
            if (street.purses[i] < MOST_COINS && street.holdersOf(i) == 0) {
                bits |= 1 << i;
            }
        }
        return bits;
    }

    // ---- partings, gifts

    public int partings(int n) {
        int refusal = partingRefusal(n);
        if (refusal != NO_REFUSAL) {
            return refusal;
        }
        partings.search(street, n);
        return partings.ways;
    }

    public int uneven(int n) {
        int refusal = partingRefusal(n);
        if (refusal != NO_REFUSAL) {
            return refusal;
        }
        partings.search(street, n);
        return partings.ways == 0 ? NONE : partings.uneven;
    }

    public int richest(int n, int house) {
        if (!street.has(house)) {
            return NOT_AS_TOLD;
        }
        int refusal = partingRefusal(n);
        if (refusal != NO_REFUSAL) {
            return refusal;
        }
        partings.search(street, n);
        return partings.ways == 0 ? NONE : partings.richest[house];
    }

    public int hands() {
        if (!canBeParted()) {
            return NOT_NOW;
        }
        partings.search(street, street.allCoins());
        return partings.ways == 0 ? NONE : partings.hands;
    }

    public int any() {
        if (!canBeParted()) {
            return NOT_NOW;
        }
        partings.search(street, street.allCoins());
        return partings.ways == 0 ? NONE : partings.moved;
    }

    // ---- houses moved

    public int change(int what) {
        if (what != 0 && what != 1) {
            return NOT_AS_TOLD;
        }
        mind.become(street);
        int fewest = mind.allBreaches();
        int best = NONE;
        for (int i = 0; i < mind.count; i++) {
            for (int j = i + 1; j < mind.count; j++) {
                mind.exchange(i, j);
                int then = mind.allBreaches();
                mind.exchange(i, j);
                if (then < fewest) {
                    fewest = then;
                    best = 10 * i + j;
                }
            }
        }
        return best == NONE || what == 0 ? best : fewest;
    }

    public int wedding(int house) {
        // Round, the first is beside the last, but it is not behind it.
        if (!street.has(house) || !street.has(house + 1)) {
            return NOT_AS_TOLD;
        }
        mind.become(street);
        mind.purses[house] = Math.min(MOST_COINS, mind.purses[house] + mind.purses[house + 1]);
        mind.remove(house + 1);
        return mind.allBreaches();
    }

    public int worth(int house, int purse) {
        if (!street.has(house) || !isPurse(purse)) {
            return BELOW_ALL_NUMBERS + NOT_AS_TOLD;
        }
        mind.become(street);
        mind.insert(house + 1, plainHouse, purse);
        return mind.mostOf(house) - street.mostOf(house);
    }

    // ---- what fits, gifts, taxes

    public int fitting(int house, int what) {
        if (!street.has(house) || what < 0 || what > 2) {
            return NOT_AS_TOLD;
        }
        mind.become(street);
        int many = 0;
        int least = NONE;
        int greatest = NONE;
        for (int purse = 0; purse < FITTING_PURSES; purse++) {
            mind.purses[house] = purse;
            if (mind.allBreaches() == 0) {
                many++;
                least = least == NONE ? purse : least;
                greatest = purse;
            }
        }
        if (what == 0) {
            return many;
        }
        return what == 1 ? least : greatest;
    }

    public int given(int d, int what) {
        if (what != 0 && what != 1) {
            return NOT_AS_TOLD;
        }
        int refusal = sortRefusal(d, SHORTS);
        if (refusal != NO_REFUSAL) {
            return refusal;
        }
        if (!areGifts(rows[d], sizes[d])) {
            return NO_PLACE;
        }
        mind.become(street);
        int given = 0;
        for (int at = 0; at + GIFT_SIZE <= sizes[d]; at += GIFT_SIZE) {
            if (mind.gift(rows[d][at], rows[d][at + 1], rows[d][at + 2]) == NO_REFUSAL) {
                given++;
            }
        }
        return what == 0 ? mind.allBreaches() : given;
    }

    public int tax(int level) {
        if (!isPurse(level)) {
            return NOT_AS_TOLD;
        }
        int left = 0;
        for (int i = 0; i < street.count; i++) {
            left += Math.min(street.purses[i], level);
        }
        return left;
    }

    public int seeded(int n, int z) {
        if (n < 1 || n > MOST_NIGHTS) {
            return NOT_AS_TOLD;
        }
        if (street.count == 0) {
            return NOT_NOW;
        }
        mind.become(street);
        int drawn = z;
        int lawfulNights = 0;
        for (int night = 0; night < n; night++) {
            drawn = nextDraw(drawn);
            int thief = drawnBelow(drawn, mind.count);
            drawn = nextDraw(drawn);
            int robbed = drawnBelow(drawn, 2) == 0 ? mind.ahead(thief) : mind.behind(thief);
            mind.steal(thief, robbed);
            if (mind.allBreaches() == 0) {
                lawfulNights++;
            }
        }
        return lawfulNights;
    }

    public int judge(int d) {
        int refusal = rowRefusal(d);
        if (refusal != NO_REFUSAL) {
            return refusal;
        }
        int skipped = leastOf(sorts[d]);
        int both = Math.min(sizes[d], street.count);
        for (int i = 0; i < both; i++) {
            if (rows[d][i] != skipped && rows[d][i] != street.purses[i]) {
                return i;
            }
        }
        return sizes[d] == street.count ? NONE : both;
    }

    // ---- the image, what is told

    public int image() {
        image.become(street);
        imageTaken = true;
        return street.allCoins();
    }

    public int restore() {
        if (!imageTaken) {
            return NOT_NOW;
        }
        street.become(image);
        return street.allCoins();
    }

    public int count(int what) {
        switch (what) {
            case 0: return street.count;
            case 1: return street.round;
            case 2: return street.allCoins();
            case 3: return street.housesWithoutBreach();
            default: return NOT_AS_TOLD;
        }
    }

    // ---- shelves

    public int keep(int d, int what, int k, int figure) {
        if (!isShelf(d) || what < 0 || what > 1) {
            return NOT_AS_TOLD;
        }
        if (what == 1 && !isHouse(k, figure)) {
            return NOT_AS_TOLD;
        }
        kept[d] = what == 1 ? houseOfKind(k, figure) : null;
        sorts[d] = NO_ROW;
        return 0;
    }

    public int row(int d, int sort, int n) {
        if (!isShelf(d) || sort < BYTES || sort > INTS || n > MOST_ELEMENTS) {
            return NOT_AS_TOLD;
        }
        if (n < 0) {
            return SIZE_BELOW_ZERO;
        }
        kept[d] = null;
        sorts[d] = sort;
        sizes[d] = n;
        Arrays.fill(rows[d], 0);
        return 0;
    }

    public int put(int d, int i, int v) {
        int refusal = rowRefusal(d);
        if (refusal != NO_REFUSAL) {
            return refusal;
        }
        if (!isPlace(d, i)) {
            return NO_PLACE;
        }
        rows[d][i] = lowestBits(sorts[d], v);
        return 0;
    }

    public long element(int d, int i) throws IllegalArgumentException, IllegalStateException {
        if (!isShelf(d)) {
            throw new IllegalArgumentException("no such shelf");
        }
        if (sorts[d] == NO_ROW || !isPlace(d, i)) {
            throw new IllegalStateException("no row, or no such place");
        }
        return rows[d][i];
    }

    public int copy(int d, int i, int e, int j, int n) {
        if (!isShelf(d) || !isShelf(e)) {
            return NOT_AS_TOLD;
        }
        if (holdsNothing(d) || holdsNothing(e)) {
            return NOTHING_HELD;
        }
        if (sorts[d] == NO_ROW || sorts[d] != sorts[e]) {
            return OTHER_KIND;
        }
        if (n < 0 || !isStretch(d, i, n) || !isStretch(e, j, n)) {
            return NO_PLACE;
        }
        System.arraycopy(rows[d], i, rows[e], j, n);
        return n;
    }

    public int fee(int d) {
        int refusal = houseRefusal(d);
        return refusal != NO_REFUSAL ? refusal : kept[d].price();
    }

    public int toss(int d) {
        int refusal = houseRefusal(d);
        if (refusal != NO_REFUSAL) {
            return refusal;
        }
        House tossed = kept[d];
        if (!tossed.hasFailure()) {
            return NO_FAILURE;
        }
        try {
            tossed.fail();
        } catch (UnsupportedOperationException ofTwins) {
            return 200 + tossed.price();
        } catch (IllegalArgumentException ofBeggar) {
            return 100 + tossed.figure;
        } catch (IllegalStateException ofOthers) {
            return tossed.figure;
        }
        return NO_FAILURE;
    }

    // ---- what may be asked

    private static boolean isPurse(int coins) {
        return coins >= 0 && coins <= MOST_COINS;
    }

    private static boolean isHouse(int kind, int figure) {
        return kind >= 0 && kind < MOST_KINDS && figure >= 0 && figure <= MOST_FIGURE;
    }

    private static boolean isShelf(int d) {
        return d >= 0 && d < SHELVES;
    }

    private boolean holdsNothing(int d) {
        return kept[d] == null && sorts[d] == NO_ROW;
    }

    private boolean isPlace(int d, int i) {
        return i >= 0 && i < sizes[d];
    }

    // Written with a difference, since the sum of two large numbers could wrap round.
    private boolean isStretch(int d, int from, int n) {
        return from >= 0 && from <= sizes[d] - n;
    }

    private int rowRefusal(int d) {
        if (!isShelf(d)) {
            return NOT_AS_TOLD;
        }
        if (holdsNothing(d)) {
            return NOTHING_HELD;
        }
        return sorts[d] == NO_ROW ? OTHER_KIND : NO_REFUSAL;
    }

    private int sortRefusal(int d, int sort) {
        int refusal = rowRefusal(d);
        if (refusal != NO_REFUSAL) {
            return refusal;
        }
        return sorts[d] == sort ? NO_REFUSAL : OTHER_KIND;
    }

    private int houseRefusal(int d) {
        if (!isShelf(d)) {
            return NOT_AS_TOLD;
        }
        if (holdsNothing(d)) {
            return NOTHING_HELD;
        }
        return kept[d] == null ? OTHER_KIND : NO_REFUSAL;
    }

    private int partingRefusal(int n) {
        if (n < 0 || n > PARTED_COINS) {
            return NOT_AS_TOLD;
        }
        return street.count > PARTED_HOUSES ? NOT_NOW : NO_REFUSAL;
    }

    private boolean canBeParted() {
        return street.count <= PARTED_HOUSES && street.allCoins() <= PARTED_COINS;
    }

    private boolean areGifts(int[] row, int size) {
        if (size % GIFT_SIZE != 0 || size > GIFT_SIZE * MOST_GIFTS) {
            return false;
        }
        for (int at = 0; at + GIFT_SIZE <= size; at += GIFT_SIZE) {
            if (!street.hasTwo(row[at], row[at + 1]) || row[at + 2] < 1 || row[at + 2] > MOST_COINS) {
                return false;
            }
        }
        return true;
    }

    // ---- numbers

    private static int lowestBits(int sort, int v) {
        switch (sort) {
            case BYTES: return (byte) v;
            case SHORTS: return (short) v;
            default: return v;
        }
    }

    private static int leastOf(int sort) {
        switch (sort) {
            case BYTES: return -128;
            case SHORTS: return -32768;
            default: return -2147483648;
        }
    }

    private static int nextDraw(int z) {
        return z * 1103515245 + 12345;
    }

    // To be asked with n of 1 at least.
    private static int drawnBelow(int z, int n) {
        return n < 1 ? 0 : (z & 0x7fffffff) / 65536 % n;
    }

    private static House houseOfKind(int kind, int figure) {
        switch (kind) {
            case 1: return new Heir(figure);
            case 2: return new Priest(figure);
            case 3: return new Wall(figure);
            case 4: return new Miser(figure);
            case 5: return new Beggar(figure);
            case 6: return new Twins(figure);
            case 7: return new Blind(figure);
            default: return new House(figure);
        }
    }

    /** Kind 0, and what the other kinds have of it. */
    private static class House {
        final int figure;

        House(int figure) {
            this.figure = figure;
        }

        int kind() {
            return 0;
        }

        boolean isLookedAt() {
            return true;
        }

        int shownOf(int purse) {
            return purse;
        }

        int allowedBy(int shown) {
            return 2 * shown;
        }

        int weekly() {
            return 2;
        }

        int price() {
            return 5;
        }

        boolean hasFailure() {
            return figure != 0;
        }

        // Which exception it is tells whose failure it was.
        void fail() {
            throw new IllegalStateException();
        }
    }

    private static class Heir extends House {
        Heir(int figure) {
            super(figure);
        }

        int kind() {
            return 1;
        }

        int allowedBy(int shown) {
            return super.allowedBy(shown) + figure;
        }

        int weekly() {
            return super.weekly() + figure;
        }

        int price() {
            return super.price() * (figure + 1);
        }
    }

    private static class Priest extends House {
        Priest(int figure) {
            super(figure);
        }

        int kind() {
            return 2;
        }

        int shownOf(int purse) {
            return super.shownOf(purse) * 9 / 10;
        }

        int weekly() {
            return super.weekly() - 1;
        }

        int price() {
            return super.price() - 2;
        }
    }

    private static class Wall extends House {
        Wall(int figure) {
            super(figure);
        }

        int kind() {
            return 3;
        }

        boolean isLookedAt() {
            return false;
        }

        int allowedBy(int shown) {
            return MOST_COINS;
        }

        int weekly() {
            return 0;
        }

        int price() {
            return super.price() + 3;
        }

        boolean hasFailure() {
            return false;
        }
    }

    private static final class Miser extends Heir {
        Miser(int figure) {
            super(figure);
        }

        int kind() {
            return 4;
        }

        int shownOf(int purse) {
            return super.shownOf(purse) / 2;
        }

        int allowedBy(int shown) {
            return Math.max(0, super.allowedBy(shown) - 1);
        }

        int weekly() {
            return super.weekly() - 1;
        }

        int price() {
            return super.price() + 1;
        }
    }

    private static final class Beggar extends Priest {
        Beggar(int figure) {
            super(figure);
        }

        int kind() {
            return 5;
        }

        int shownOf(int purse) {
            return super.shownOf(purse) + figure;
        }

        int weekly() {
            return super.weekly() - 1;
        }

        int price() {
            return super.price() + figure;
        }

        void fail() {
            throw new IllegalArgumentException();
        }
    }

    private static final class Twins extends Heir {
        Twins(int figure) {
            super(figure);
        }

        int kind() {
            return 6;
        }

        int allowedBy(int shown) {
            return 2 * super.allowedBy(shown);
        }

        int weekly() {
            return 2 * super.weekly();
        }

        int price() {
            return super.price() - figure;
        }

        void fail() {
            throw new UnsupportedOperationException();
        }
    }

    private static final class Blind extends Wall {
        Blind(int figure) {
            super(figure);
        }

        int kind() {
            return 7;
        }

        boolean isLookedAt() {
            return true;
        }

        int weekly() {
            return super.weekly() + figure;
        }

        int price() {
            return 2 * super.price();
        }

        boolean hasFailure() {
            return figure != 0;
        }
    }

    /** Houses with their purses, in a row or round. */
    private static final class Street {
        // One place more than there is room for: a new house that is only in mind needs none.
        final House[] houses = new House[ROOM + 1];
        final int[] purses = new int[ROOM + 1];
        int count;
        int round;

        Street() {
        }

        void become(Street other) {
            for (int i = 0; i < houses.length; i++) {
                houses[i] = other.houses[i];
                purses[i] = other.purses[i];
            }
            count = other.count;
            round = other.round;
        }

        boolean has(int i) {
            return i >= 0 && i < count;
        }

        boolean hasTwo(int one, int other) {
            return has(one) && has(other) && one != other;
        }

        boolean isClosed() {
            return round == 1 && count >= 3;
        }

        // Who is beside house i on its one side and on its other one: round, the first and the last, too.
        int ahead(int i) {
            if (i > 0) {
                return i - 1;
            }
            return isClosed() ? count - 1 : NOBODY;
        }

        int behind(int i) {
            if (i < count - 1) {
                return i + 1;
            }
            return isClosed() ? 0 : NOBODY;
        }

        // What house i may have by the one beside it; NO_LIMIT if there is none or it is not looked at.
        int limitBy(int i, int beside) {
            if (beside == NOBODY || !houses[beside].isLookedAt()) {
                return NO_LIMIT;
            }
            return houses[i].allowedBy(houses[beside].shownOf(purses[beside]));
        }

        int mostOf(int i) {
            return Math.min(MOST_COINS, Math.min(limitBy(i, ahead(i)), limitBy(i, behind(i))));
        }

        int breachesOf(int i) {
            int breaches = purses[i] > limitBy(i, ahead(i)) ? 1 : 0;
            return purses[i] > limitBy(i, behind(i)) ? breaches + 1 : breaches;
        }

        int allBreaches() {
            int all = 0;
            for (int i = 0; i < count; i++) {
                all += breachesOf(i);
            }
            return all;
        }

        int housesWithoutBreach() {
            int many = 0;
            for (int i = 0; i < count; i++) {
                if (breachesOf(i) == 0) {
                    many++;
                }
            }
            return many;
        }

        int holdersOf(int i) {
            int ahead = ahead(i);
            int behind = behind(i);
            int bits = purses[i] + 1 > limitBy(i, ahead) ? 1 << ahead : 0;
            return purses[i] + 1 > limitBy(i, behind) ? bits | 1 << behind : bits;
        }

        int allCoins() {
            int all = 0;
            for (int i = 0; i < count; i++) {
                all += purses[i];
            }
            return all;
        }

        void earn(int weeks) {
            for (int i = 0; i < count; i++) {
                purses[i] = Math.min(MOST_COINS, purses[i] + weeks * houses[i].weekly());
            }
        }

        int gift(int one, int other, int coins) {
            if (!hasTwo(one, other) || coins < 1) {
                return NOT_AS_TOLD;
            }
            if (purses[one] < coins) {
                return NOT_NOW;
            }
            if (purses[other] + coins > MOST_COINS) {
                return NO_ROOM;
            }
            purses[one] -= coins;
            purses[other] += coins;
            return NO_REFUSAL;
        }

        void steal(int thief, int robbed) {
            if (robbed != NOBODY && purses[robbed] > 0 && purses[thief] < MOST_COINS) {
                purses[robbed]--;
                purses[thief]++;
            }
        }

        void exchange(int one, int other) {
            House house = houses[one];
            int purse = purses[one];
            houses[one] = houses[other];
            purses[one] = purses[other];
            houses[other] = house;
            purses[other] = purse;
        }

        void insert(int at, House house, int purse) {
            if (at < 0 || at > count || count >= houses.length) {
                return;
            }
            for (int i = count; i > at; i--) {
                houses[i] = houses[i - 1];
                purses[i] = purses[i - 1];
            }
            houses[at] = house;
            purses[at] = purse;
            count++;
        }

        void remove(int at) {
            if (!has(at)) {
                return;
            }
            for (int i = at; i < count - 1; i++) {
                houses[i] = houses[i + 1];
                purses[i] = purses[i + 1];
            }
            count--;
        }
    }

    /** All lawful partings of so many coins, gone through one by one. */
    private static final class Partings {
        int ways;
        int uneven;
        int hands;
        int moved;
        final int[] richest = new int[PARTED_HOUSES];

        private final Street parted = new Street();
        private final int[] before = new int[PARTED_HOUSES];
        // Bit b of suits[i][a]: house i with a coins and the one behind it with b are no breach of each other.
        private final int[][] suits = new int[PARTED_HOUSES][PARTED_COINS + 1];

        Partings() {
        }

        void search(Street street, int coins) {
            ways = 0;
            uneven = 0;
            hands = 0;
            moved = 0;
            Arrays.fill(richest, 0);
            if (street.count > PARTED_HOUSES || coins < 0 || coins > PARTED_COINS) {
                return;
            }
            parted.become(street);
            System.arraycopy(street.purses, 0, before, 0, street.count);
            for (int i = 0; i < street.count; i++) {
                if (parted.behind(i) != NOBODY) {
                    noteWhatSuits(i, parted.behind(i), coins);
                }
            }
            part(0, coins);
        }

        private void noteWhatSuits(int i, int next, int coins) {
            Arrays.fill(suits[i], 0);
            for (int a = 1; a < coins; a++) {
                parted.purses[i] = a;
                for (int b = 1; a + b <= coins; b++) {
                    parted.purses[next] = b;
                    if (a <= parted.limitBy(i, next) && b <= parted.limitBy(next, i)) {
                        suits[i][a] |= 1 << b;
                    }
                }
            }
        }

        // House i and those behind it part what is left; a call a house, so at most seven levels deep.
        private void part(int i, int left) {
            if (i >= parted.count) {
                if (left == 0 && isClosedWell()) {
                    note();
                }
                return;
            }
            int most = left - (parted.count - 1 - i);
            int least = i == parted.count - 1 ? left : 1;
            for (int purse = Math.max(1, least); purse <= most; purse++) {
                parted.purses[i] = purse;
                if (i == 0 || suit(i - 1, i)) {
                    part(i + 1, left - purse);
                }
            }
        }

        private boolean suit(int i, int next) {
            return (suits[i][parted.purses[i]] >> parted.purses[next] & 1) == 1;
        }

        private boolean isClosedWell() {
            return !parted.isClosed() || suit(parted.count - 1, 0);
        }

        private void note() {
            uneven = Math.max(uneven, difference());
            hands = ways == 0 ? handed() : Math.min(hands, handed());
            moved = ways == 0 ? moving() : Math.min(moved, moving());
            for (int i = 0; i < parted.count; i++) {
                richest[i] = Math.max(richest[i], parted.purses[i]);
            }
            ways++;
        }

        private int difference() {
            int least = MOST_COINS;
            int most = 0;
            for (int i = 0; i < parted.count; i++) {
                least = Math.min(least, parted.purses[i]);
                most = Math.max(most, parted.purses[i]);
            }
            return Math.max(0, most - least);
        }

        // Over each border between two houses go the coins that the houses ahead of it have too many or too few.
        private int handed() {
            int over = 0;
            int all = 0;
            for (int i = 0; i < parted.count; i++) {
                over += before[i] - parted.purses[i];
                all += Math.abs(over);
            }
            return all;
        }

        private int moving() {
            int all = 0;
            for (int i = 0; i < parted.count; i++) {
                all += Math.max(0, before[i] - parted.purses[i]);
            }
            return all;
        }
    }

    /** A street as a text: statements, each with a semicolon behind. */
    private static final class StreetText {
        private static final int MOST_DIGITS = 4;

        private int[] bytes = new int[0];
        private int size;
        private int done;

        StreetText() {
        }

        void open(int[] bytes, int size) {
            this.bytes = bytes;
            this.size = Math.min(size, bytes.length);
            this.done = 0;
        }

        int statements() {
            return done;
        }

        // The place of the first byte with which no street can go on; -1: all can be read.
        int brokenPlace() {
            if (size == 0) {
                return 0;
            }
            int at = 0;
            // A statement has a byte at least, so there are no more of them than bytes.
            for (int read = 0; read < size && at < size; read++) {
                int end = endOf(at);
                if (byteAt(end) != ';' || end < at + 1 + fewestDigits(byteAt(at))) {
                    return end;
                }
                at = end + 1;
            }
            return -1;
        }

        // The place of the letter of the first statement that can't be done on the street; -1: all were done.
        int wrongPlace(Street street) {
            int at = 0;
            for (int read = 0; read < size && at < size; read++) {
                if (!isDone(at, street)) {
                    return at;
                }
                done++;
                at = endOf(at) + 1;
            }
            return -1;
        }

        // The place behind the statement's letter and digits, or where they break off.
        private int endOf(int at) {
            int letter = byteAt(at);
            if (!isLetter(letter)) {
                return at;
            }
            int most = hasNumber(letter) ? singleDigits(letter) + MOST_DIGITS : singleDigits(letter);
            int read = 0;
            while (read < most && isDigit(byteAt(at + 1 + read))) {
                read++;
            }
            return at + 1 + read;
        }

        private static int fewestDigits(int letter) {
            return hasNumber(letter) ? singleDigits(letter) + 1 : singleDigits(letter);
        }

        private static int singleDigits(int letter) {
            switch (letter) {
                case 'h':
                case 'g':
                case 'm': return 2;
                case 'r': return 1;
                default: return 0;
            }
        }

        private static boolean isLetter(int sign) {
            return sign == 'h' || sign == 'r' || sign == 'g' || sign == 'm' || sign == 'u';
        }

        private static boolean hasNumber(int letter) {
            return letter == 'h' || letter == 'g';
        }

        private static boolean isDigit(int sign) {
            return sign >= '0' && sign <= '9';
        }

        // 0, which stands for nothing in a text, where the text is at its end.
        private int byteAt(int at) {
            return at >= 0 && at < size ? bytes[at] : 0;
        }

        private int digitAt(int at) {
            return byteAt(at) - '0';
        }

        private int numberAt(int at) {
            int number = 0;
            for (int i = at; i < at + MOST_DIGITS && isDigit(byteAt(i)); i++) {
                number = 10 * number + digitAt(i);
            }
            return number;
        }

        private boolean isDone(int at, Street street) {
            int one = digitAt(at + 1);
            int other = digitAt(at + 2);
            switch (byteAt(at)) {
                case 'h': return comesAsTold(street, one, other, numberAt(at + 3));
                case 'r': return turnsAsTold(street, one);
                case 'g': return street.gift(one, other, numberAt(at + 3)) == NO_REFUSAL;
                case 'm': return movesAsTold(street, one, other);
                case 'u': return leavesAsTold(street);
                default: return false;
            }
        }

        private static boolean comesAsTold(Street street, int kind, int figure, int purse) {
            if (!isHouse(kind, figure) || street.count >= ROOM) {
                return false;
            }
            street.insert(street.count, houseOfKind(kind, figure), purse);
            return true;
        }

        private static boolean turnsAsTold(Street street, int round) {
            if (round != 0 && round != 1) {
                return false;
            }
            street.round = round;
            return true;
        }

        private static boolean movesAsTold(Street street, int one, int other) {
            if (!street.hasTwo(one, other)) {
                return false;
            }
            street.exchange(one, other);
            return true;
        }

        private static boolean leavesAsTold(Street street) {
            if (street.count == 0) {
                return false;
            }
            street.remove(street.count - 1);
            return true;
        }
    }
}
