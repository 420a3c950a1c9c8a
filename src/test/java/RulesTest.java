import java.io.IOException;
import java.lang.reflect.Array;
import java.lang.reflect.Field;
import java.lang.reflect.Modifier;
import java.nio.file.Files;
import java.nio.file.Path;
import java.util.ArrayList;
import java.util.HashSet;
import java.util.IdentityHashMap;
import java.util.List;
import java.util.Map;
import java.util.Set;
import java.util.TreeMap;
import java.util.regex.Matcher;
import java.util.regex.Pattern;

/** The rules of LANGUAGE.md, as far as a machine can look after them, and how much room an object takes. */
public final class RulesTest {
    private static final String[] NOT_TO_BE = {
        "\\bthrow\\b", "\\bthrows\\b", "\\btry\\b", "\\bcatch\\b", "\\bsynchronized\\b", "\\bassert\\b", "->", "::",
        "Exact\\b", "^package\\b", "\\bhashCode\\b", "\\btoString\\b", "\\bdouble\\b", "\\bfloat\\b",
        "\\bstatic \\{", "\\bvolatile\\b", "\\bprotected\\b"};
    private static final Set<String> IMPORTS = Set.of("java.util.Arrays", "java.util.ArrayList", "java.util.List");
    private static final Set<String> LIBRARY = Set.of("Math.min", "Math.max", "Arrays.fill", "System.arraycopy");
    private static final Pattern OF_LIBRARY = Pattern.compile("\\b(?:Math|Arrays|System|Integer|Long)\\.\\w+");
    private static final Pattern METHOD =
        Pattern.compile("^( +)(?:[a-z]+ )*(?:int|long|boolean|void) (\\w+)\\(([^)]*)\\) \\{\n(.*?)^\\1}$",
            Pattern.MULTILINE | Pattern.DOTALL);
    private static final Pattern CALLED = Pattern.compile("\\b(\\w+)\\(");
    private static final int MOST_LINES = 60, MOST_TAKEN = 7, MOST_DEEP = 8, MOST_CLASSES = 12, MOST_FIELDS = 20;
    /** Thousands of objects fit in the room of a run: 600,000 objects and arrays, 7.3 million cells. */
    private static final int MOST_OBJECTS = 100, MOST_CELLS = 2000;

    private final String code;
    private final Map<String, String> bodies = new TreeMap<>();

    private RulesTest(String text) {
        code = text.replaceAll("(?s)/\\*.*?\\*/", "").replaceAll("//[^\n]*", "");
    }

    public static void main(String[] args) throws IOException, ReflectiveOperationException {
        String text = Files.readString(Path.of("src/main/java/RegretLine.java"));
        Check.due("signs 1 to 127", text.chars().allMatch(c -> c >= 1 && c <= 127));
        RulesTest rules = new RulesTest(text);
        rules.words();
        rules.library();
        rules.methods();
        rules.calls();
        classes();
        room();
        Check.finish("RulesTest");
    }

    private void words() {
        for (String word : NOT_TO_BE) {
            Check.due("no " + word, !Pattern.compile(word, Pattern.MULTILINE).matcher(code).find());
        }
    }

    private void library() {
        Matcher imports = Pattern.compile("^import ([^;]+);", Pattern.MULTILINE).matcher(code);
        while (imports.find()) {
            Check.due("import " + imports.group(1), IMPORTS.contains(imports.group(1)));
        }
        Matcher used = OF_LIBRARY.matcher(code);
        while (used.find()) {
            boolean constant = used.group().equals("Long.MIN_VALUE");
            Check.due("use of " + used.group(), constant || LIBRARY.contains(used.group()));
        }
    }

    private void methods() {
        Matcher method = METHOD.matcher(code);
        while (method.find()) {
            String name = method.group(2);
            String body = method.group(4);
            Check.due(name + " is short", body.lines().count() <= MOST_LINES);
            Check.due(name + " takes few", method.group(3).split(",").length <= MOST_TAKEN);
            // Rows are made with the object alone: a run may call as often as it likes.
            Check.due(name + " makes nothing", !Pattern.compile("\\bnew\\b").matcher(body).find());
            bodies.merge(name, body, String::concat);
        }
        Check.due("methods were found: " + bodies.size(), bodies.size() > 60);
    }

    /** Methods of one name count as one: that can make what is found deeper, not less deep. */
    private void calls() {
        for (String name : bodies.keySet()) {
            int deep = depthOf(name, new ArrayList<>());
            Check.due(name + " goes " + deep + " deep", deep <= MOST_DEEP);
        }
    }

    private int depthOf(String name, List<String> open) {
        if (open.contains(name)) {
            Check.due("no recursion: " + open + " and " + name, false);
            return 0;
        }
        open.add(name);
        int deepest = 0;
        Matcher called = CALLED.matcher(bodies.get(name));
        Set<String> seen = new HashSet<>();
        while (called.find()) {
            if (seen.add(called.group(1)) && bodies.containsKey(called.group(1))) {
                deepest = Math.max(deepest, depthOf(called.group(1), open));
            }
        }
        open.remove(name);
        return deepest + 1;
    }

    private static void classes() {
        List<Class<?>> all = new ArrayList<>(List.of(RegretLine.class.getDeclaredClasses()));
        all.add(RegretLine.class);
        Check.due("classes: " + all.size(), all.size() <= MOST_CLASSES);
        for (Class<?> one : all) {
            int fields = 0;
            for (Field f : one.getDeclaredFields()) {
                boolean isStatic = Modifier.isStatic(f.getModifiers());
                Check.due(one + ": " + f.getName() + " never changes", !isStatic || Modifier.isFinal(f.getModifiers()));
                Check.due(one + ": " + f.getName() + " is a number", !isStatic || f.getType().isPrimitive());
                fields += isStatic ? 0 : 1;
            }
            Check.due("fields of " + one + ": " + fields, fields <= MOST_FIELDS);
        }
    }

    private static void room() throws ReflectiveOperationException {
        Set<Object> first = partsOf(new RegretLine());
        Set<Object> used = partsOf(Made.most());
        Check.due("objects: " + first.size(), first.size() <= MOST_OBJECTS);
        Check.due("objects of a used one: " + used.size(), used.size(), first.size());
        Check.due("cells: " + cellsOf(first), cellsOf(first) <= MOST_CELLS);
        Check.due("cells of a used one", cellsOf(used), cellsOf(first));
    }

    private static Set<Object> partsOf(Object whole) throws ReflectiveOperationException {
        Set<Object> found = java.util.Collections.newSetFromMap(new IdentityHashMap<>());
        List<Object> left = new ArrayList<>(List.of(whole));
        while (!left.isEmpty()) {
            Object one = left.remove(left.size() - 1);
            if (!found.add(one)) {
                continue;
            }
            if (one instanceof Object[] row) {
                left.addAll(List.of(row));
            }
            for (Field f : one.getClass().getDeclaredFields()) {
                f.setAccessible(true);
                if (!f.getType().isPrimitive() && !Modifier.isStatic(f.getModifiers())) {
                    left.add(f.get(one));
                }
            }
        }
        return found;
    }

    private static int cellsOf(Set<Object> parts) {
        int cells = 0;
        for (Object one : parts) {
            cells += one.getClass().isArray() ? Array.getLength(one) : one.getClass().getDeclaredFields().length;
        }
        return cells;
    }
}
