import java.lang.reflect.Constructor;
import java.lang.reflect.Field;
import java.lang.reflect.Method;
import java.lang.reflect.Modifier;
import java.util.Arrays;
import java.util.Random;
import java.util.TreeSet;

/** The class has the document's face and nothing else, and no call throws, whatever its arguments are. */
public final class FaceTest {
    private static final String[] FACE = {
        "best(int)", "compare()", "count(int)", "current(int, int)", "drop(int)", "end(int)",
        "feed(int, int, int, int, int)", "install(int, int)", "match()", "owner()", "release()", "rollback(int)",
        "step(int, int)", "unwant()", "want()",
    };
    private static final String[] CONSTANTS = {"REFUSED", "NONE", "FULL", "THERE", "CUT", "FAULT", "CLASH"};
    private static final int[] EDGES = {Integer.MIN_VALUE, -2, -1, 0, 1, 2, 5, 31, 32, 400, Integer.MAX_VALUE};

    private FaceTest() {
    }

    public static void main(String[] args) throws ReflectiveOperationException {
        constants();
        members();
        anyArguments();
        Check.finish();
    }

    private static void same(String what, Object got, Object want) {
        if (!got.equals(want)) {
            System.out.println(what + " is " + got + ", due is " + want);
        }
        Check.due(what, got.equals(want) ? 1 : 0, 1);
    }

    private static void constants() throws ReflectiveOperationException {
        for (int i = 0; i < CONSTANTS.length; i++) {
            Check.due(CONSTANTS[i], PackageKeeper.class.getField(CONSTANTS[i]).getInt(null), -1 - i);
        }
    }

    private static void members() {
        same("class", Modifier.toString(PackageKeeper.class.getModifiers()), "public final");
        TreeSet<String> methods = new TreeSet<>();
        for (Method method : PackageKeeper.class.getDeclaredMethods()) {
            if (!Modifier.isPrivate(method.getModifiers())) {
                String types = Arrays.toString(method.getParameterTypes()).replace('[', '(').replace(']', ')');
                methods.add(method.getName() + types);
                same(method.getName(), Modifier.toString(method.getModifiers()), "public");
                same(method.getName(), method.getReturnType(), int.class);
            }
        }
        same("methods", methods, new TreeSet<>(Arrays.asList(FACE)));
        TreeSet<String> fields = new TreeSet<>();
        for (Field field : PackageKeeper.class.getDeclaredFields()) {
            if (!Modifier.isPrivate(field.getModifiers())) {
                fields.add(field.getName());
                same(field.getName(), Modifier.toString(field.getModifiers()), "public static final");
            }
        }
        same("fields", fields, new TreeSet<>(Arrays.asList(CONSTANTS)));
        Constructor<?>[] constructors = PackageKeeper.class.getDeclaredConstructors();
        same("constructors", constructors.length, 1);
        same("constructor", constructors[0].getParameterCount(), 0);
        same("constructor", Modifier.toString(constructors[0].getModifiers()), "public");
    }

    /** Also far beyond 512 calls, where answers are free but no call may throw. */
    private static void anyArguments() throws ReflectiveOperationException {
        Random random = new Random(16);
        Method[] methods = Arrays.stream(PackageKeeper.class.getDeclaredMethods())
                .filter(method -> Modifier.isPublic(method.getModifiers())).toArray(Method[]::new);
        Arrays.sort(methods, (one, other) -> one.getName().compareTo(other.getName()));
        String[] texts = {"a 1.0.0", "b 1.0.0 needs a *", "a *", "b *", "a 2.0.0", "a", "p", "1.0.0 *"};
        PackageKeeper keeper = new PackageKeeper();
        for (int i = 0; i < 20000; i++) {
            if (random.nextInt(4) == 0) {
                String text = texts[random.nextInt(texts.length)];
                int[] five = Check.fives(text, 0);
                keeper.end(0);
                keeper.feed(five[0], five[1], five[2], five[3], five[4]);
                keeper.end(text.length());
            }
            Method method = methods[random.nextInt(methods.length)];
            Object[] values = new Object[method.getParameterCount()];
            for (int k = 0; k < values.length; k++) {
                values[k] = EDGES[random.nextInt(EDGES.length)];
            }
            int answer = (Integer) method.invoke(keeper, values);
            Check.due(method.getName() + " is an answer", answer >= PackageKeeper.CLASH ? 1 : 0, 1);
        }
    }
}
