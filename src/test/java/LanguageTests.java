import java.lang.reflect.Constructor;
import java.lang.reflect.Field;
import java.lang.reflect.Method;
import java.lang.reflect.Modifier;
import java.nio.file.Files;
import java.nio.file.Path;
import java.util.ArrayList;
import java.util.List;
import java.util.Map;
import java.util.Set;
import java.util.TreeMap;
import java.util.TreeSet;
import java.util.regex.Matcher;
import java.util.regex.Pattern;

/** The face of the document, the rules of LANGUAGE.md that can be seen from outside, and the room of a run. */
public final class LanguageTests {
    private static final String[] FACE = {
        "int type(int)", "int program(int)", "int gone(int)", "int run(int)", "int alone(int,int)",
        "int step(int,int,int)", "int rule(int)", "int turn(int)", "int go(int)", "int lay()", "int gate(int,int)",
        "int task(int,int)", "int count(int)", "int ahead(int,int)", "int loops(int)", "long ways(int,int,int)",
        "long odds(int,int,int)", "int near(int,int)", "int drift(int)", "int undo()", "int seed(int)", "int image()",
        "int restore()", "int tried(int,int,int,int)", "int film(int,int,int)", "int sheet(int,int,int)",
        "int drop(int)", "int item(int,int,int,long)", "int copy(int,int,int,int,int)"};
    private static final String[] CONSTANTS = {"BAD", "NOT", "FULL", "NONE", "NULL", "CAST", "INDEX", "SIZE"};
    private static int wrong = 0;

    public static void main(String[] args) throws Exception {
        face();
        nestedClasses();
        source();
        room();
        System.out.println(wrong == 0 ? "the language is kept to" : wrong + " rules are not kept to");
        if (wrong != 0) {
            System.exit(1);
        }
    }

    private static void due(boolean holds, String what) {
        if (!holds) {
            wrong++;
            System.out.println("not kept: " + what);
        }
    }

    private static String signature(Method m) {
        StringBuilder text = new StringBuilder(m.getReturnType() + " " + m.getName() + "(");
        for (int k = 0; k < m.getParameterCount(); k++) {
            text.append(k == 0 ? "" : ",").append(m.getParameterTypes()[k]);
        }
        return text.append(")").toString();
    }

    private static void face() {
        Set<String> open = new TreeSet<>();
        Set<String> hidden = new TreeSet<>();
        Set<String> names = new TreeSet<>();
        for (Method m : GateTable.class.getDeclaredMethods()) {
            if (Modifier.isPrivate(m.getModifiers())) {
                hidden.add(m.getName());
            } else {
                open.add(signature(m));
                due(Modifier.isPublic(m.getModifiers()) && !Modifier.isStatic(m.getModifiers()), "public: " + m);
            }
        }
        due(open.equals(new TreeSet<>(Set.of(FACE))), "the methods of the face: " + open);
        for (String one : FACE) {
            String name = one.substring(one.indexOf(' ') + 1, one.indexOf('('));
            due(!hidden.contains(name), "no private method bears the name " + name);
            names.add(name);
        }
        hiddenNames(names);
        Set<String> constants = new TreeSet<>();
        for (Field f : GateTable.class.getDeclaredFields()) {
            if (!Modifier.isPrivate(f.getModifiers())) {
                constants.add(f.getName());
            }
        }
        due(constants.equals(new TreeSet<>(Set.of(CONSTANTS))), "the constants of the face: " + constants);
        Constructor<?>[] makers = GateTable.class.getDeclaredConstructors();
        due(makers.length == 1 && Modifier.isPublic(makers[0].getModifiers()) && makers[0].getParameterCount() == 0,
            "one constructor");
        due(Modifier.isFinal(GateTable.class.getModifiers()) && Modifier.isPublic(GateTable.class.getModifiers()),
            "public and final");
    }

    private static void nestedClasses() {
        Class<?>[] nested = GateTable.class.getDeclaredClasses();
        due(nested.length < 12, "at most some twelve classes");
        fields(GateTable.class);
        for (Class<?> c : nested) {
            due(Modifier.isStatic(c.getModifiers()), "static: " + c);
            due(!Modifier.isPublic(c.getModifiers()) && !Modifier.isProtected(c.getModifiers()), "not public: " + c);
            fields(c);
        }
    }

    private static void fields(Class<?> c) {
        int count = 0;
        for (Field f : c.getDeclaredFields()) {
            boolean isStatic = Modifier.isStatic(f.getModifiers());
            count += isStatic ? 0 : 1;
            due(!isStatic || Modifier.isFinal(f.getModifiers()), "final: " + f);
        }
        due(count <= 20, "at most some twenty fields: " + c);
        for (Method m : c.getDeclaredMethods()) {
            due(m.getParameterCount() <= 7, "at most seven parameters: " + m);
        }
    }

    private static void source() throws Exception {
        String text = Files.readString(Path.of(System.getProperty("gatetable.source", "src/main/java/GateTable.java")));
        for (int k = 0; k < text.length(); k++) {
            due(text.charAt(k) < 128, "plain letters at " + k);
        }
        String code = text.replaceAll("(?s)/\\*.*?\\*/", " ").replaceAll("//[^\n]*", " ").replaceAll("'.'", "' '");
        for (String word : new String[] {"throw", "throws", "try", "catch", "finally", "synchronized", "assert", "package",
            "native", "volatile", "transient", "protected", "double", "float", "Object", "Exception", "System.out",
            "var", "record", "sealed", "instanceof"}) {
            due(!Pattern.compile("\\b" + Pattern.quote(word) + "\\b").matcher(code).find(), "no " + word);
        }
        due(!code.contains("->") && !code.contains("::") && !code.contains("@"), "no lambda, reference, annotation");
        Matcher imports = Pattern.compile("import\\s+([^;]+);").matcher(code);
        while (imports.find()) {
            due(imports.group(1).equals("java.util.Arrays"), "import " + imports.group(1));
        }
        Matcher library = Pattern.compile("\\b(Arrays|System|Integer|Long|Math)\\.(\\w+)").matcher(code);
        Set<String> allowed = Set.of("Arrays.fill", "Arrays.copyOf", "Arrays.copyOfRange", "System.arraycopy",
            "Integer.bitCount", "Math.min", "Math.max", "Math.abs");
        while (library.find()) {
            due(allowed.contains(library.group()), "library: " + library.group());
        }
        Map<String, String> bodies = methods(code);
        due(bodies.size() > 100, "methods are found: " + bodies.size());
        callDepths(bodies);
    }

    /** The bodies of all methods and constructors by name; those of one name are put together. */
    private static Map<String, String> methods(String code) {
        Map<String, String> bodies = new TreeMap<>();
        Pattern head = Pattern.compile("((?:    ){1,2})(?!if |for |while |switch |else)[A-Za-z][^=;]*?(\\w+)\\([^)]*\\) \\{\\s*");
        String[] lines = code.split("\n");
        for (int k = 0; k < lines.length; k++) {
            Matcher m = head.matcher(lines[k]);
            if (m.matches()) {
                int start = k;
                StringBuilder body = new StringBuilder();
                while (k + 1 < lines.length && !lines[k + 1].startsWith(m.group(1) + "}")) {
                    k++;
                    body.append(lines[k]).append('\n');
                }
                due(k - start < 60, "a short method: " + m.group(2));
                bodies.merge(m.group(2), body.toString(), String::concat);
            }
        }
        return bodies;
    }

    private static void callDepths(Map<String, String> bodies) {
        Map<String, Set<String>> calls = new TreeMap<>();
        for (String name : bodies.keySet()) {
            Set<String> called = new TreeSet<>();
            Matcher m = Pattern.compile("\\b(\\w+)\\(").matcher(bodies.get(name));
            while (m.find()) {
                if (bodies.containsKey(m.group(1))) {
                    called.add(m.group(1));
                }
            }
            calls.put(name, called);
        }
        for (String one : FACE) {
            String name = one.substring(one.indexOf(' ') + 1, one.indexOf('('));
            List<String> chain = longestChain(name, calls, new ArrayList<>());
            due(bodies.containsKey(name), "a body of " + name);
            due(chain.size() <= 8, "calls go at most eight deep: " + chain);
        }
    }

    /** The longest chain of calls that comes to no method again. */
    private static List<String> longestChain(String name, Map<String, Set<String>> calls, List<String> open) {
        List<String> longest = List.of();
        open.add(name);
        for (String called : calls.get(name)) {
            if (!open.contains(called)) {
                List<String> chain = longestChain(called, calls, open);
                longest = chain.size() > longest.size() ? chain : longest;
            }
        }
        open.remove(open.size() - 1);
        List<String> whole = new ArrayList<>(longest);
        whole.add(0, name);
        return whole;
    }

    private static void hiddenNames(Set<String> faceNames) {
        for (Class<?> c : GateTable.class.getDeclaredClasses()) {
            for (Method m : c.getDeclaredMethods()) {
                due(!faceNames.contains(m.getName()), "no method inside bears a public name: " + m);
            }
        }
    }

    /** The dearest calls, as often as an object is used: no more than a small part of the room. */
    private static void room() {
        com.sun.management.ThreadMXBean bean =
            (com.sun.management.ThreadMXBean) java.lang.management.ManagementFactory.getThreadMXBean();
        long thread = Thread.currentThread().getId();
        GateTable x = new GateTable();
        String program = "5{a(4{a+1})}";
        for (int t = 0; t < 4; t++) {
            for (int k = 0; k < program.length(); k++) {
                x.type(program.charAt(k));
            }
            x.program(t);
        }
        x.gone(5);
        long ahead = bean.getThreadAllocatedBytes(thread);
        for (int k = 0; k < 512; k++) {
            x.gone(5);
        }
        long made = bean.getThreadAllocatedBytes(thread) - ahead;
        due(made < 4_000_000, "gone makes little: " + made);
        ahead = bean.getThreadAllocatedBytes(thread);
        for (int k = 0; k < 512; k++) {
            x.drift(40);
            x.ways(0, 1, 0);
            x.image();
            x.restore();
            x.sheet(0, 3, 24);
            x.tried(0, 3, 0, 24);
            x.undo();
        }
        made = bean.getThreadAllocatedBytes(thread) - ahead;
        due(made < 100_000, "the others make nothing: " + made);
    }
}
