import java.lang.reflect.InvocationTargetException;
import java.lang.reflect.Method;
import java.lang.reflect.Modifier;
import java.util.Arrays;

/** Every call with every number beside a bound of the document, each answer beside that of Model. */
public final class ExtremesTest {
    private static final int LOW = Integer.MIN_VALUE;
    private static final int HIGH = Integer.MAX_VALUE;
    private static final int[] MANY = {
        LOW, LOW + 1, -32769, -129, -2, -1, 0, 1, 2, 3, 5, 6, 7, 8, 9, 10, 19, 20, 21, 39, 40, 41, 98, 99, 100, 101,
        255, 9998, 9999, 10000, 32768, 65536, HIGH - 1, HIGH,
    };
    private static final int[] SOME = {LOW, -1, 0, 1, 2, 3, 5, 7, 8, 9, 10, 100, 101, 9999, 10000, HIGH};
    private static final int[] FEW = {LOW, -1, 0, 1, 3, 100, HIGH};
    private static final String[] STREETS = {
        "r1;", "h005;", "h0010;h009999;r1;", "h004;h1907;h5309;r1;", "h3020;h001;h700;h6904;h2011;h002;",
        "h001;h102;h203;h304;h405;h506;h607;h708;r1;",
    };
    private static final int LAST_CALL = 420;

    private final Checks checks;
    private TwiceAsRich x;
    private Model model;
    private int calls;

    private ExtremesTest(Checks checks) {
        this.checks = checks;
    }

    public static void main(String[] args) throws IllegalAccessException, NoSuchMethodException {
        Checks checks = new Checks();
        Method[] face = TwiceAsRich.class.getDeclaredMethods();
        Arrays.sort(face, (one, other) -> one.getName().compareTo(other.getName()));
        for (String street : STREETS) {
            for (Method method : face) {
                if (Modifier.isPublic(method.getModifiers())) {
                    checks.promise(method.getName() + " behind " + street);
                    new ExtremesTest(checks).all(street, method);
                }
            }
        }
        checks.end();
    }

    private void all(String street, Method method) throws IllegalAccessException, NoSuchMethodException {
        Method told = Model.class.getDeclaredMethod(method.getName(), method.getParameterTypes());
        int arguments = method.getParameterCount();
        int[] values = arguments < 3 ? MANY : arguments < 5 ? SOME : FEW;
        int[] at = new int[arguments];
        calls = LAST_CALL;
        do {
            if (calls >= LAST_CALL) {
                compare();
                begin(street);
            }
            Object[] with = new Object[arguments];
            for (int i = 0; i < arguments; i++) {
                with[i] = values[at[i]];
            }
            checks.due(method.getName() + Arrays.toString(with), answer(method, x, with), answer(told, model, with));
            calls++;
        } while (hasNext(at, values.length));
        compare();
    }

    // What the calls have left behind: houses, purses, round, shelves.
    private void compare() {
        if (x == null) {
            return;
        }
        both(x.count(1), model.count(1));
        both(x.count(2), model.count(2));
        for (int i = 0; i <= 8; i++) {
            for (int what = 0; what < 3; what++) {
                both(x.house(i, what), model.house(i, what));
            }
        }
        for (int d = 0; d < 8; d++) {
            both(x.fee(d), model.fee(d));
            both(x.toss(d), model.toss(d));
            for (int i = 0; i < 5; i++) {
                both(Calls.element(x, d, i), model.element(d, i));
            }
        }
    }

    // Counts the places up by one; false behind the last ones.
    private static boolean hasNext(int[] at, int n) {
        for (int i = at.length - 1; i >= 0; i--) {
            at[i]++;
            if (at[i] < n) {
                return true;
            }
            at[i] = 0;
        }
        return false;
    }

    private static long answer(Method method, Object asked, Object[] with) throws IllegalAccessException {
        try {
            return ((Number) method.invoke(asked, with)).longValue();
        } catch (InvocationTargetException e) {
            if (e.getCause().getClass() == IllegalArgumentException.class) {
                return Calls.NO_SHELF;
            }
            if (e.getCause().getClass() == IllegalStateException.class) {
                return Calls.NO_ELEMENT;
            }
            throw new IllegalStateException(method.getName() + Arrays.toString(with), e.getCause());
        }
    }

    // The street, an image of another one, and on the shelves: 0 nothing, 1 and 2 shorts, 3 bytes, 5 ints, 7 and 6 houses.
    private void begin(String street) {
        x = new TwiceAsRich();
        model = new Model();
        calls = 0;
        row(3, 0, "h005;r0;".chars().toArray());
        both(x.street(3), model.street(3));
        both(x.image(), model.image());
        row(3, 0, ("u;" + street).chars().toArray());
        both(x.street(3), model.street(3));
        row(1, 1, 0, 1, 9999, 1, 0, 5);
        row(2, 1, 4, 7, 9);
        row(5, 2, LOW, 7, HIGH);
        row(3, 0, "r1;".chars().toArray());
        both(x.keep(7, 1, 6, 9), model.keep(7, 1, 6, 9));
        both(x.keep(6, 1, 3, 1), model.keep(6, 1, 3, 1));
    }

    private void row(int d, int sort, int... elements) {
        both(x.row(d, sort, elements.length), model.row(d, sort, elements.length));
        for (int i = 0; i < elements.length; i++) {
            both(x.put(d, i, elements[i]), model.put(d, i, elements[i]));
        }
    }

    private void both(long got, long want) {
        checks.due("call " + calls, got, want);
        calls++;
    }
}
