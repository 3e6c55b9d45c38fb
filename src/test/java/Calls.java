/** Runs of calls that tests make often. */
final class Calls {
    static final int BYTES = 0;
    static final int SHORTS = 1;
    static final int INTS = 2;

    private Calls() {
    }

    /** A new object with the houses and orders of a text. */
    static TwiceAsRich street(String text) {
        TwiceAsRich x = new TwiceAsRich();
        int read = read(x, text);
        if (read < 1) {
            throw new IllegalStateException("the text " + text + " was answered " + read);
        }
        return x;
    }

    /** The text is put on shelf 7 and read. */
    static int read(TwiceAsRich x, String text) {
        putText(x, 7, text);
        return x.street(7);
    }

    static void putText(TwiceAsRich x, int d, String text) {
        int[] signs = new int[text.length()];
        for (int i = 0; i < signs.length; i++) {
            signs[i] = text.charAt(i);
        }
        putRow(x, d, BYTES, signs);
    }

    static void putRow(TwiceAsRich x, int d, int sort, int... elements) {
        if (x.row(d, sort, elements.length) != 0) {
            throw new IllegalStateException("no row on shelf " + d);
        }
        for (int i = 0; i < elements.length; i++) {
            if (x.put(d, i, elements[i]) != 0) {
                throw new IllegalStateException("nothing was put on shelf " + d);
            }
        }
    }

    static final long NO_SHELF = 1L << 40;
    static final long NO_ELEMENT = 2L << 40;

    /** The element; NO_SHELF for an IllegalArgumentException, NO_ELEMENT for an IllegalStateException. */
    static long element(TwiceAsRich x, int d, int i) {
        try {
            return x.element(d, i);
        } catch (IllegalArgumentException e) {
            return NO_SHELF;
        } catch (IllegalStateException e) {
            return NO_ELEMENT;
        }
    }

    /** All that can be told of houses, round, purses and shelves, without any of it being changed. */
    static String all(TwiceAsRich x) {
        StringBuilder all = new StringBuilder();
        all.append(x.count(0)).append(' ').append(x.count(1));
        for (int i = 0; i < x.count(0); i++) {
            all.append(" h").append(x.house(i, 0)).append(',').append(x.house(i, 1)).append(',').append(x.house(i, 2));
        }
        for (int d = 0; d < 8; d++) {
            all.append(" s").append(x.fee(d)).append(',').append(x.toss(d));
            for (int i = 0; element(x, d, i) < NO_SHELF; i++) {
                all.append(',').append(element(x, d, i));
            }
        }
        return all.toString();
    }
}
