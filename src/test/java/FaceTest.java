import java.lang.reflect.Constructor;
import java.lang.reflect.Field;
import java.lang.reflect.Method;
import java.lang.reflect.Modifier;
import java.util.Set;
import java.util.TreeSet;

/** The class shows what the document's face tells, and nothing else. */
public final class FaceTest {
    private static final String[] FACE = {
        "int street(int)", "int house(int,int)", "int comes(int,int)", "int round(int)",
        "int give(int,int,int)", "int weeks(int)", "int lawful()", "int breaches(int)", "int held(int)",
        "int free()", "int partings(int)", "int uneven(int)", "int richest(int,int)", "int hands()",
        "int any()", "int change(int)", "int wedding(int)", "int worth(int,int)", "int fitting(int,int)",
        "int given(int,int)", "int tax(int)", "int seeded(int,int)", "int judge(int)", "int image()",
        "int restore()", "int count(int)", "int keep(int,int,int,int)", "int row(int,int,int)",
        "int put(int,int,int)",
        "long element(int,int) throws IllegalArgumentException IllegalStateException",
        "int copy(int,int,int,int,int)", "int fee(int)", "int toss(int)",
    };

    public static void main(String[] args) {
        Checks checks = new Checks();
        checks.promise("the face");
        Set<String> want = new TreeSet<>(Set.of(FACE));
        Set<String> got = new TreeSet<>();
        for (Method method : TwiceAsRich.class.getDeclaredMethods()) {
            if (!Modifier.isPrivate(method.getModifiers())) {
                got.add(told(method));
                checks.due("modifiers of " + told(method), method.getModifiers(), Modifier.PUBLIC);
            }
        }
        if (!got.equals(want)) {
            System.out.println("shown: " + got);
        }
        checks.due("the methods are the document's", got.equals(want) ? 1 : 0, 1);
        for (Method method : TwiceAsRich.class.getDeclaredMethods()) {
            if (Modifier.isPrivate(method.getModifiers())) {
                checks.due("a private method has a name of the face: " + method.getName(), isOfFace(method.getName()) ? 1 : 0, 0);
            }
        }
        for (Field field : TwiceAsRich.class.getDeclaredFields()) {
            checks.due("field " + field.getName() + " is private", Modifier.isPrivate(field.getModifiers()) ? 1 : 0, 1);
            boolean loose = Modifier.isStatic(field.getModifiers()) && !Modifier.isFinal(field.getModifiers());
            checks.due("field " + field.getName() + " is static and can change", loose ? 1 : 0, 0);
        }
        Constructor<?>[] constructors = TwiceAsRich.class.getDeclaredConstructors();
        checks.due("constructors", constructors.length, 1);
        checks.due("the constructor is public", constructors[0].getModifiers(), Modifier.PUBLIC);
        checks.due("the constructor's arguments", constructors[0].getParameterCount(), 0);
        checks.due("the class", TwiceAsRich.class.getModifiers(), Modifier.PUBLIC | Modifier.FINAL);
        checks.promise("the classes inside");
        for (Class<?> inside : TwiceAsRich.class.getDeclaredClasses()) {
            checkInside(checks, inside);
        }
        checks.end();
    }

    // Rules 1, 5 and 11 of LANGUAGE.md, as far as they tell of classes inside.
    private static void checkInside(Checks checks, Class<?> inside) {
        String name = inside.getSimpleName();
        checks.due(name + " can be seen", inside.getModifiers() & (Modifier.PUBLIC | Modifier.PROTECTED), 0);
        checks.due(name + " is static", Modifier.isStatic(inside.getModifiers()) ? 1 : 0, 1);
        checks.due(name + " has many fields", Math.max(20, inside.getDeclaredFields().length), 20);
        for (Field field : inside.getDeclaredFields()) {
            boolean loose = Modifier.isStatic(field.getModifiers()) && !Modifier.isFinal(field.getModifiers());
            checks.due(name + "'s field " + field.getName() + " is static and can change", loose ? 1 : 0, 0);
        }
        for (Method method : inside.getDeclaredMethods()) {
            String called = name + "." + method.getName();
            checks.due(called + " has a name of the face", isOfFace(method.getName()) ? 1 : 0, 0);
            checks.due(called + " has many arguments", Math.max(7, method.getParameterCount()), 7);
        }
    }

    private static boolean isOfFace(String name) {
        for (String method : FACE) {
            if (method.contains(" " + name + "(")) {
                return true;
            }
        }
        return false;
    }

    private static String told(Method method) {
        StringBuilder told = new StringBuilder();
        told.append(method.getReturnType().getSimpleName()).append(' ').append(method.getName()).append('(');
        for (Class<?> type : method.getParameterTypes()) {
            told.append(told.charAt(told.length() - 1) == '(' ? "" : ",").append(type.getSimpleName());
        }
        told.append(')');
        for (Class<?> thrown : method.getExceptionTypes()) {
            told.append(told.charAt(told.length() - 1) == ')' ? " throws " : " ").append(thrown.getSimpleName());
        }
        return told.toString();
    }
}
