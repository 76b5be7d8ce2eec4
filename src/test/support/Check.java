import java.lang.reflect.InvocationTargetException;
import java.lang.reflect.Method;
import java.util.ArrayList;
import java.util.Comparator;
import java.util.List;
import java.util.function.ToLongFunction;

/** What the tests share: answers held against those that are due, and towns told as texts. */
public class Check {
    protected static final int NONE = -1, UNKNOWN = -101, OUTSIDE = -102, STATE = -103, FULL = -104;
    protected static final int[] WRONG_HOUSES = {-1, 8, 100, Integer.MIN_VALUE, Integer.MAX_VALUE};
    protected static final int[] FAR = {Integer.MIN_VALUE, Integer.MIN_VALUE + 1, Integer.MAX_VALUE - 1, Integer.MAX_VALUE};

    private static int checks = 0;
    private static int wrong = 0;
    private static String part = "";

    // ---- answers

    protected static void due(String call, long got, long want) {
        checks++;
        if (got != want) {
            wrong++;
            System.out.println(part + call + " answered " + got + ", due is " + want);
        }
    }

    /** A call that is refused answers with the code, and the digest is what it was. */
    protected static void refused(String call, TownOnWeight x, long code, ToLongFunction<TownOnWeight> made) {
        long before = x.digest();
        due(call, made.applyAsLong(x), code);
        due(call + ", which changes nothing", x.digest(), before);
    }

    protected static void finish(String what) {
        System.out.println(checks + " " + what + ", " + wrong + " wrong");
        if (wrong != 0) {
            System.exit(1);
        }
    }

    /** Runs each method named pNN_, where NN is a promise; each promise from first to last must have one. */
    protected static void runPromises(Class<?> tests, int first, int last) throws Exception {
        int[] seen = new int[last + 1];
        for (Method m : promiseMethods(tests)) {
            int promise = Integer.parseInt(m.getName().substring(1, 3));
            part = m.getName() + ": ";
            due("a promise from " + first + " to " + last, promise >= first && promise <= last ? 1 : 0, 1);
            if (promise <= last) {
                seen[promise]++;
            }
            run(m);
        }
        part = "";
        for (int promise = first; promise <= last; promise++) {
            due("promise " + promise + " has a test", seen[promise] > 0 ? 1 : 0, 1);
        }
    }

    private static List<Method> promiseMethods(Class<?> tests) {
        List<Method> found = new ArrayList<>();
        for (Method m : tests.getDeclaredMethods()) {
            if (m.getName().matches("p\\d\\d_\\w+")) {
                found.add(m);
            }
        }
        found.sort(Comparator.comparing(Method::getName));
        return found;
    }

    private static void run(Method m) throws IllegalAccessException {
        m.setAccessible(true);
        int before = checks;
        try {
            m.invoke(null);
        } catch (InvocationTargetException e) {
            due("it answers without throwing " + e.getCause(), 0, 1);
        }
        due("it checks something", checks > before ? 1 : 0, 1);
    }

    // ---- towns

    protected static long text(String letters) {
        long w = 0;
        for (int i = letters.length() - 1; i >= 0; i--) {
            w = w << 8 | letters.charAt(i);
        }
        return w;
    }

    protected static void write(TownOnWeight x, String letters) {
        x.blank();
        for (int i = 0; i < letters.length(); i += 8) {
            x.letters(text(letters.substring(i, Math.min(letters.length(), i + 8))));
        }
    }

    /** A town in the morning with these houses. */
    protected static TownOnWeight town(String... houses) {
        TownOnWeight x = new TownOnWeight();
        for (int i = 0; i < houses.length; i++) {
            write(x, houses[i]);
            due("house() of " + houses[i], x.house(), i);
        }
        return x;
    }

    /** A town in the morning with so many feet and these houses. */
    protected static TownOnWeight townOf(int length, String... houses) {
        TownOnWeight x = town(houses);
        due("length(" + length + ")", x.length(length), 60);
        return x;
    }

    protected static String[] eight(String house) {
        return new String[] {house, house, house, house, house, house, house, house};
    }

    protected static TownOnWeight fullTown() {
        return town(eight("h-0910"));
    }

    protected static void hours(TownOnWeight x, int many) {
        for (int i = 0; i < many; i++) {
            x.hour();
        }
    }

    /** What about() tells of each house, one after another. */
    protected static void dueOfEach(String call, TownOnWeight x, int what, long... want) {
        for (int h = 0; h < want.length; h++) {
            due(call + ": about(" + h + ", " + what + ")", x.about(h, what), want[h]);
        }
    }

    protected static void dueParts(String call, TownOnWeight x, long... want) {
        for (int h = 0; h < want.length; h++) {
            due(call + ": part(" + h + ")", x.part(h), want[h]);
        }
    }

    /** What count() tells for 0 to 9. */
    protected static void dueCounts(String call, TownOnWeight x, long... want) {
        for (int what = 0; what < want.length; what++) {
            due(call + ": count(" + what + ")", x.count(what), want[what]);
        }
    }
}
