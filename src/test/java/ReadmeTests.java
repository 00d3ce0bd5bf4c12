import java.lang.reflect.InvocationTargetException;
import java.lang.reflect.Method;
import java.nio.file.Files;
import java.nio.file.Path;
import java.util.List;
import java.util.Set;
import java.util.TreeSet;
import java.util.regex.Matcher;
import java.util.regex.Pattern;

/** Does the calls that README.md shows, line by line: each must answer as the page tells. */
public final class ReadmeTests {
    private static final Pattern MADE = Pattern.compile("GateTable x = new GateTable\\(\\);");
    private static final Pattern TOLD = Pattern.compile("tell\\(x, \"([^\"]*)\"\\);");
    private static final Pattern CALL = Pattern.compile("x\\.(\\w+)\\(([-0-9L, ]*)\\); +// (-?\\d+)(:.*)?");

    private static final Set<String> unseen = new TreeSet<>();
    private static GateTable x = new GateTable();
    private static int calls = 0;
    private static int right = 0;
    private static int wrong = 0;

    public static void main(String[] args) throws Exception {
        for (Method m : GateTable.class.getDeclaredMethods()) {
            if (java.lang.reflect.Modifier.isPublic(m.getModifiers())) {
                unseen.add(m.getName());
            }
        }
        doBlocks(Files.readAllLines(page()));
        hold(unseen.isEmpty(), "the page shows no call of " + unseen);
        System.out.println(right + " lines of README.md right, " + wrong + " wrong");
        if (wrong != 0) {
            System.exit(1);
        }
    }

    /** README.md stands four directories above the class. */
    private static Path page() {
        String source = System.getProperty("gatetable.source", "src/main/java/GateTable.java");
        return Path.of(source).toAbsolutePath().getParent().getParent().getParent().getParent().resolve("README.md");
    }

    private static void hold(boolean holds, String otherwise) {
        if (holds) {
            right++;
        } else {
            wrong++;
            System.out.println(otherwise);
        }
    }

    /** Only blocks that begin with a new object are runs of calls. */
    private static void doBlocks(List<String> lines) throws Exception {
        boolean inside = false;
        for (int k = 0; k < lines.size(); k++) {
            String line = lines.get(k);
            if (line.equals("```java")) {
                inside = k + 1 < lines.size() && MADE.matcher(lines.get(k + 1)).matches();
            } else if (line.equals("```")) {
                inside = false;
            } else if (inside) {
                doLine(k + 1, line);
            }
        }
    }

    private static void doLine(int number, String line) throws Exception {
        Matcher told = TOLD.matcher(line);
        Matcher call = CALL.matcher(line);
        if (MADE.matcher(line).matches()) {
            x = new GateTable();
            calls = 0;
        } else if (told.matches()) {
            for (char letter : told.group(1).toCharArray()) {
                calls++;
                hold(x.type(letter) > 0, "line " + number + ": the tape does not take " + letter);
            }
        } else if (call.matches()) {
            calls++;
            long got = answer(call.group(1), call.group(2));
            hold(got == Long.parseLong(call.group(3)), "line " + number + ": " + line + " but it answered " + got);
            unseen.remove(call.group(1));
        } else {
            hold(false, "line " + number + " is no call with its answer: " + line);
        }
        hold(calls <= 512, "line " + number + ": more than 512 calls");
    }

    private static long answer(String name, String list) throws IllegalAccessException, InvocationTargetException {
        String[] texts = list.isEmpty() ? new String[0] : list.split(", ");
        for (Method m : GateTable.class.getDeclaredMethods()) {
            if (m.getName().equals(name) && m.getParameterCount() == texts.length) {
                Object[] values = new Object[texts.length];
                for (int k = 0; k < texts.length; k++) {
                    values[k] = value(texts[k], m.getParameterTypes()[k]);
                }
                return ((Number) m.invoke(x, values)).longValue();
            }
        }
        throw new IllegalStateException("the page calls " + name + " of " + texts.length + " numbers: there is none");
    }

    private static Object value(String text, Class<?> type) {
        if (type == long.class) {
            return Long.parseLong(text.replace("L", ""));
        }
        return Integer.parseInt(text);
    }
}
