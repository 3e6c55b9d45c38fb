import java.lang.reflect.InvocationTargetException;
import java.lang.reflect.Method;
import java.util.ArrayList;
import java.util.HashMap;
import java.util.List;
import java.util.Map;
import java.util.regex.Matcher;
import java.util.regex.Pattern;

/** An object in use, its calls told as they are written: "give(0, 1, 5)". */
final class Trial {
    static final int LOW = Integer.MIN_VALUE;
    static final int HIGH = Integer.MAX_VALUE;
    /** What a call that throws is said to answer. */
    static final long ILLEGAL_ARGUMENT = Calls.NO_SHELF;
    static final long ILLEGAL_STATE = Calls.NO_ELEMENT;

    private static final int MOST_CALLS = 512;
    private static final int TEXT_SHELF = 7;
    private static final Pattern NUMBER = Pattern.compile("-?\\d+");
    private static final Map<String, Method> FACE = face();

    private final Checks checks;
    private final TwiceAsRich x = new TwiceAsRich();
    private final List<String> made = new ArrayList<>();

    /** A new object. */
    Trial(Checks checks) {
        this.checks = checks;
    }

    /** A new object with what the text tells; the shelf that held the text holds nothing again. */
    Trial(Checks checks, String street) {
        this(checks);
        add(street);
    }

    private static Map<String, Method> face() {
        Map<String, Method> face = new HashMap<>();
        for (Method method : TwiceAsRich.class.getDeclaredMethods()) {
            face.put(method.getName(), method);
        }
        return face;
    }

    /** What the text tells comes, and must be without fault. */
    Trial add(String street) {
        putText(TEXT_SHELF, street);
        long read = answer("street(" + TEXT_SHELF + ")");
        if (read < 1) {
            throw new IllegalStateException("the text " + street + " was answered " + read);
        }
        return make("keep(" + TEXT_SHELF + ", 0, 0, 0)");
    }

    Trial putText(int d, String text) {
        return putRow(d, Calls.BYTES, text.chars().toArray());
    }

    Trial putRow(int d, int sort, int... elements) {
        make("row(" + d + ", " + sort + ", " + elements.length + ")");
        for (int i = 0; i < elements.length; i++) {
            make("put(" + d + ", " + i + ", " + elements[i] + ")");
        }
        return this;
    }

    /** A call that must not be refused. */
    Trial make(String call) {
        long answer = answer(call);
        if (answer < 0) {
            throw new IllegalStateException(call + " was answered " + answer);
        }
        return this;
    }

    Trial due(String call, long want) {
        checks.due(call + " behind " + told(), answer(call), want);
        return this;
    }

    /** The text is read from the text shelf, where it stays. */
    Trial read(String text, long want) {
        putText(TEXT_SHELF, text);
        return due("street(" + TEXT_SHELF + ")", want);
    }

    /** The call is answered so, and behind it all is as it would be without it, THE IMAGE, too. */
    Trial refused(String call, long want) {
        Trial without = again();
        Trial with = again();
        checks.due(call + " behind " + told(), with.answer(call), want);
        same("houses", call, with.houses(), without.houses());
        same("shelves", call, with.shelves(), without.shelves());
        same("the image", call, with.answer("restore()") + with.houses(), without.answer("restore()") + without.houses());
        same("sorts", call, with.sorts(), without.sorts());
        return this;
    }

    /** The text is put on the text shelf and refused; behind it all is as it would be without it. */
    Trial refusedText(String text, long want) {
        putText(TEXT_SHELF, text);
        return refused("street(" + TEXT_SHELF + ")", want);
    }

    private void same(String what, String call, String got, String want) {
        checks.due(what + " as they were behind " + call + ": " + got + " for " + want, got.equals(want) ? 1 : 0, 1);
    }

    private Trial again() {
        Trial twin = new Trial(checks);
        for (String call : made) {
            twin.answer(call);
        }
        return twin;
    }

    long answer(String call) {
        made.add(call);
        if (made.size() > MOST_CALLS) {
            throw new IllegalStateException("an object is used for 512 calls");
        }
        Method method = FACE.get(call.substring(0, call.indexOf('(')));
        Object[] with = new Object[method.getParameterCount()];
        Matcher numbers = NUMBER.matcher(call);
        for (int i = 0; i < with.length && numbers.find(); i++) {
            with[i] = Integer.valueOf(numbers.group());
        }
        try {
            return ((Number) method.invoke(x, with)).longValue();
        } catch (InvocationTargetException e) {
            return thrown(call, e.getCause());
        } catch (IllegalAccessException e) {
            throw new IllegalStateException(e);
        }
    }

    // Just the exceptions that the document names, none that is under them.
    private static long thrown(String call, Throwable thrown) {
        if (thrown.getClass() == IllegalArgumentException.class) {
            return ILLEGAL_ARGUMENT;
        }
        if (thrown.getClass() == IllegalStateException.class) {
            return ILLEGAL_STATE;
        }
        throw new IllegalStateException(call + " threw", thrown);
    }

    private String houses() {
        StringBuilder told = new StringBuilder();
        long houses = answer("count(0)");
        told.append(' ').append(houses).append(" round ").append(answer("count(1)"));
        for (int i = 0; i < houses; i++) {
            for (int what = 0; what < 3; what++) {
                told.append(what == 0 ? " h" : ",").append(answer("house(" + i + ", " + what + ")"));
            }
        }
        return told.toString();
    }

    private String shelves() {
        StringBuilder told = new StringBuilder();
        for (int d = 0; d < 8; d++) {
            told.append(" s").append(answer("fee(" + d + ")")).append(',').append(answer("toss(" + d + ")"));
            long element = answer("element(" + d + ", 0)");
            for (int i = 1; element != ILLEGAL_STATE; i++) {
                told.append(',').append(element);
                element = answer("element(" + d + ", " + i + ")");
            }
        }
        return told.toString();
    }

    // What is kept of a number that is too large for bytes and for shorts; it changes the rows.
    private String sorts() {
        StringBuilder told = new StringBuilder();
        for (int d = 0; d < 8; d++) {
            told.append(' ').append(answer("put(" + d + ", 0, 70000)"));
            told.append(',').append(answer("element(" + d + ", 0)"));
        }
        return told.toString();
    }

    // The last calls, which is enough to find the place.
    private String told() {
        return String.join("; ", made.subList(Math.max(0, made.size() - 3), made.size()));
    }
}
