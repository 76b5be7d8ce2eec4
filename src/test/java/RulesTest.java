import java.lang.reflect.Constructor;
import java.lang.reflect.Field;
import java.lang.reflect.Method;
import java.lang.reflect.Modifier;
import java.nio.file.Files;
import java.nio.file.Path;
import java.util.ArrayList;
import java.util.List;
import java.util.Random;
import java.util.Set;
import java.util.TreeSet;
import java.util.regex.Matcher;
import java.util.regex.Pattern;

/** The rules of LANGUAGE.md that a test can see: the face, the source's words, and that no call ever throws. */
public final class RulesTest {
    private static final Set<String> FACE = Set.of(
        "int letters(long)", "int blank()", "int fault()", "int house()", "int about(int,int)", "int as(int,int)",
        "int length(int)", "int brake(int,boolean)", "int rain(boolean)", "int wants(int)", "int goes(int)",
        "int hour()", "int worked()", "int part(int)", "int night()", "int plan(int)", "int more(int)",
        "int missing(int,int)", "int rest(int,int)", "int read(int,int)", "int wipe()", "int leaks()",
        "int leak(int)", "int look()", "int image()", "int restore()", "int count(int)", "long digest()");
    private static final String[] CONSTANTS = {"NONE", "UNKNOWN", "OUTSIDE", "STATE", "FULL"};
    private static final int[] VALUES = {-1, -101, -102, -103, -104};
    private static final String[] WORDS_NOT_USED = {
        "import", "package", "try", "catch", "finally", "throw", "throws", "synchronized", "assert", "native", "Object",
        "float", "double", "System.out", "Thread", "Random", "->", "::", "@", "static \\{", "hashCode", "toString",
        "equals", "Exact"};
    private static final int MOST_LINES = 60;
    private static final int MOST_PARAMETERS = 7;
    private static final int MOST_CLASSES = 12;
    private static final int MOST_FIELDS = 20;

    private static int checks = 0;
    private static int wrong = 0;

    public static void main(String[] args) throws Exception {
        face();
        insides();
        source();
        noCallThrows();
        System.out.println(checks + " checks of rules, " + wrong + " wrong");
        if (wrong != 0) {
            System.exit(1);
        }
    }

    private static void must(String what, boolean holds) {
        checks++;
        if (!holds) {
            wrong++;
            System.out.println("not so: " + what);
        }
    }

    private static String faceOf(Method m) {
        List<String> types = new ArrayList<>();
        for (Class<?> type : m.getParameterTypes()) {
            types.add(type.getName());
        }
        return m.getReturnType().getName() + " " + m.getName() + "(" + String.join(",", types) + ")";
    }

    private static void face() throws Exception {
        Class<?> c = TownOnWeight.class;
        must("the class is public and final", Modifier.isPublic(c.getModifiers()) && Modifier.isFinal(c.getModifiers()));
        Set<String> methods = new TreeSet<>();
        for (Method m : c.getDeclaredMethods()) {
            if (!Modifier.isPrivate(m.getModifiers())) {
                methods.add(faceOf(m));
                must(m + " is public and of the object", m.getModifiers() == Modifier.PUBLIC);
            }
        }
        must("the methods are those of the document: " + methods, methods.equals(new TreeSet<>(FACE)));
        int constants = 0;
        for (Field f : c.getDeclaredFields()) {
            if (!Modifier.isPrivate(f.getModifiers())) {
                constants++;
            }
        }
        must("no other constants", constants == CONSTANTS.length);
        for (int i = 0; i < CONSTANTS.length; i++) {
            Field f = c.getField(CONSTANTS[i]);
            must(f + " is as told", f.getInt(null) == VALUES[i] && f.getType() == int.class
                && f.getModifiers() == (Modifier.PUBLIC | Modifier.STATIC | Modifier.FINAL));
        }
        Constructor<?>[] made = c.getDeclaredConstructors();
        must("one public constructor without arguments", made.length == 1 && made[0].getParameterCount() == 0
            && Modifier.isPublic(made[0].getModifiers()));
    }

    private static void insides() {
        Set<String> names = new TreeSet<>();
        for (String told : FACE) {
            names.add(told.substring(told.indexOf(' ') + 1, told.indexOf('(')));
        }
        List<Class<?>> classes = new ArrayList<>(List.of(TownOnWeight.class.getDeclaredClasses()));
        for (Class<?> c : classes) {
            must(c + " is static and not public", Modifier.isStatic(c.getModifiers())
                && !Modifier.isPublic(c.getModifiers()) && !Modifier.isProtected(c.getModifiers()));
        }
        classes.add(TownOnWeight.class);
        must("few classes", classes.size() <= MOST_CLASSES);
        for (Class<?> c : classes) {
            int fields = 0;
            for (Field f : c.getDeclaredFields()) {
                fields += Modifier.isStatic(f.getModifiers()) ? 0 : 1;
                must(f + " is final, if static", !Modifier.isStatic(f.getModifiers()) || Modifier.isFinal(f.getModifiers()));
            }
            must("few fields in " + c, fields <= MOST_FIELDS);
            for (Method m : c.getDeclaredMethods()) {
                must(m + " has few parameters", m.getParameterCount() <= MOST_PARAMETERS);
                must(m + " bears no name of the face", Modifier.isPublic(m.getModifiers()) || !names.contains(m.getName()));
            }
        }
    }

    private static void source() throws Exception {
        Path path = Path.of(System.getProperty("town.source", "src/main/java/TownOnWeight.java"));
        String text = Files.readString(path);
        for (char sign : text.toCharArray()) {
            if (sign > 126) {
                must("signs are 1 to 126", false);
            }
        }
        String code = text.replaceAll("(?s)/\\*.*?\\*/", "").replaceAll("//[^\n]*", "");
        for (String word : WORDS_NOT_USED) {
            String bounded = Character.isLetter(word.charAt(0)) ? "\\b" + word + "\\b" : word;
            must("no " + word, !Pattern.compile(bounded).matcher(code).find());
        }
        for (String line : code.split("\n")) {
            if (line.matches(".*\\bnew\\b.*")) {
                must("made once, with the object: " + line.trim(),
                    line.matches("\\s*private final \\S+ \\w+ = new \\w+(\\(\\)|\\[[A-Z_]+\\]);"));
            }
        }
        shortMethods(text);
    }

    /** A method ends at the first closing brace that stands as deep as its head. */
    private static void shortMethods(String text) {
        Matcher m = Pattern.compile("(?m)^( +)(public|private)[^;=\n]*\\) \\{\n(?s:.*?)^\\1\\}").matcher(text);
        int seen = 0;
        while (m.find()) {
            seen++;
            int lines = m.group().split("\n").length;
            must("short: " + m.group().split("\n")[0].trim(), lines <= MOST_LINES);
        }
        must("methods were seen", seen >= FACE.size());
    }

    // ---- any arguments in any state

    private static int any(Random random) {
        int[] edges = {Integer.MIN_VALUE, Integer.MIN_VALUE + 1, -105, -2, -1, 0, 1, 2, 7, 8, 9, 31, 32, 33, 63, 64, 255,
            256, 257, 65536, Integer.MAX_VALUE - 1, Integer.MAX_VALUE};
        return random.nextInt(3) == 0 ? random.nextInt(10) : edges[random.nextInt(edges.length)];
    }

    private static Object argument(Class<?> type, Random random) {
        if (type == boolean.class) {
            return random.nextBoolean();
        }
        if (type == long.class) {
            long[] words = {0, -1, Long.MIN_VALUE, Long.MAX_VALUE, 'h', '-', '0', 0x30_31_39_30_2dL, 0x30_31_39_30_2d_68L,
                0x35_35_38_31_30_78L, 0x39_39_39_30_2d_63L};
            return words[random.nextInt(words.length)];
        }
        return any(random);
    }

    private static void noCallThrows() throws Exception {
        List<Method> methods = new ArrayList<>();
        for (Method m : TownOnWeight.class.getDeclaredMethods()) {
            if (Modifier.isPublic(m.getModifiers())) {
                methods.add(m);
            }
        }
        methods.sort((a, b) -> a.getName().compareTo(b.getName()));
        Random random = new Random(20261118);
        for (int run = 0; run < 300; run++) {
            TownOnWeight x = new TownOnWeight();
            for (int call = 0; call < 512; call++) {
                Method m = methods.get(random.nextInt(methods.size()));
                Object[] arguments = new Object[m.getParameterCount()];
                for (int i = 0; i < arguments.length; i++) {
                    arguments[i] = argument(m.getParameterTypes()[i], random);
                }
                boolean answered = true;
                try {
                    m.invoke(x, arguments);
                } catch (java.lang.reflect.InvocationTargetException e) {
                    answered = false;
                    System.out.println(e.getCause());
                }
                must(m.getName() + List.of(arguments) + " answers", answered);
            }
        }
    }
}
