import java.lang.reflect.Method;
import java.lang.reflect.Modifier;
import java.nio.file.Files;
import java.nio.file.Path;
import java.util.ArrayList;
import java.util.List;
import java.util.regex.Matcher;
import java.util.regex.Pattern;

/** What README.md tells: its examples answer as it says, and it names each call, each refusal and the number of calls. */
public final class ReadmeTest extends Check {
    private static final Pattern ROW = Pattern.compile("town\\.(\\w+)\\((.*)\\);\\s+// (-?\\w+)(:.*)?");
    private static final String MADE = "TownOnWeight town = new TownOnWeight();";
    private static final String[] REFUSALS = {"UNKNOWN", "OUTSIDE", "STATE", "FULL"};
    private static final int FEWEST_ROWS = 30;
    private static final int MOST_CALLS = 512;

    public static void main(String[] args) throws Exception {
        String page = Files.readString(Path.of(System.getProperty("town.readme", "README.md")));
        examples(page);
        eachCallHasItsGroup(page);
        eachRefusalHasItsRow(page);
        howManyCalls(page);
        finish("checks of README.md");
    }

    private static void told(String what, boolean is) {
        due(what + " (1: so it is)", is ? 1 : 0, 1);
    }

    // ---- examples

    private static List<String> javaRows(String page) {
        List<String> rows = new ArrayList<>();
        Matcher block = Pattern.compile("(?s)```java\n(.*?)```").matcher(page);
        while (block.find()) {
            rows.addAll(block.group(1).lines().toList());
        }
        return rows;
    }

    private static void examples(String page) throws Exception {
        TownOnWeight town = null;
        int calls = 0;
        for (String row : javaRows(page)) {
            if (row.equals(MADE)) {
                town = new TownOnWeight();
            } else if (row.startsWith("town")) {
                calls++;
                Matcher m = ROW.matcher(row);
                told("a call with its answer: " + row, m.matches() && town != null);
                if (m.matches() && town != null) {
                    due(row, answer(town, m.group(1), m.group(2)), number(m.group(3)));
                }
            }
        }
        told("examples were seen", calls >= FEWEST_ROWS && calls <= MOST_CALLS);
    }

    private static long answer(TownOnWeight town, String name, String told) throws Exception {
        String[] texts = told.isEmpty() ? new String[0] : told.split(", ");
        for (Method m : TownOnWeight.class.getDeclaredMethods()) {
            if (m.getName().equals(name) && Modifier.isPublic(m.getModifiers()) && m.getParameterCount() == texts.length) {
                Object[] arguments = new Object[texts.length];
                for (int i = 0; i < texts.length; i++) {
                    arguments[i] = argument(m.getParameterTypes()[i], texts[i]);
                }
                return ((Number) m.invoke(town, arguments)).longValue();
            }
        }
        told("a call of the face: " + name + "(" + told + ")", false);
        return 0;
    }

    private static Object argument(Class<?> type, String told) {
        if (type == boolean.class) {
            return told.equals("true");
        }
        if (type == int.class) {
            return Integer.parseInt(told);
        }
        Matcher word = Pattern.compile("word\\(\"(.*)\"\\)").matcher(told);
        told("letters are told by word: " + told, word.matches());
        return word.matches() ? text(word.group(1)) : 0L;
    }

    private static long number(String told) throws Exception {
        return told.matches("[A-Z]+") ? TownOnWeight.class.getField(told).getInt(null) : Long.parseLong(told);
    }

    // ---- words

    /** A head of a group, of the form "### ...: `call`, `call`", names each call of the face just once. */
    private static void eachCallHasItsGroup(String page) {
        String heads = String.join("\n", page.lines().filter(line -> line.startsWith("### ")).toList());
        for (Method m : TownOnWeight.class.getDeclaredMethods()) {
            if (Modifier.isPublic(m.getModifiers())) {
                due("groups that name " + m.getName(), heads.split("`" + m.getName() + "`", -1).length - 1, 1);
            }
        }
    }

    private static void eachRefusalHasItsRow(String page) throws Exception {
        for (String refusal : REFUSALS) {
            String row = "| `" + refusal + "` (" + number(refusal) + ") |";
            told("a row begins with " + row, page.contains("\n" + row));
        }
        told("NONE is told", page.contains("`NONE` (" + TownOnWeight.NONE + ")"));
    }

    private static void howManyCalls(String page) {
        told("for how many calls an object is used", page.contains("at most " + MOST_CALLS + " calls"));
        told("how the tests are run", page.contains("\n.ci/run\n"));
    }
}
