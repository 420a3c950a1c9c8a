import java.lang.reflect.Method;
import java.nio.file.Files;
import java.nio.file.Path;
import java.util.Set;
import java.util.TreeSet;
import java.util.regex.Matcher;
import java.util.regex.Pattern;

/** README.md tells calls with their answers: they are made in its order, and every call of the face is shown. */
public final class ReadmeTest {
    private static final Pattern TEXT = Pattern.compile("String text = \"([^\"]+)\"");
    private static final Pattern SHOWN = Pattern.compile("^ *x\\.(\\w+)\\(", Pattern.MULTILINE);
    private static final Pattern ROW =
        Pattern.compile("^x\\.(\\w+)\\(([-\\w, ]*)\\); +// (-?\\d+|[A-Z]+)\\b", Pattern.MULTILINE);

    public static void main(String[] args) throws ReflectiveOperationException, java.io.IOException {
        String page = Files.readString(Path.of("README.md"));
        Matcher text = TEXT.matcher(page);
        Check.due("README tells a text", text.find());
        RegretLine x = new RegretLine();
        Check.due("line", Check.take(x, text.group(1)), 2);
        Matcher row = ROW.matcher(page);
        int rows = 0;
        while (row.find()) {
            Check.due("README: " + row.group(), answer(x, row.group(1), row.group(2)), number(row.group(3)));
            rows++;
        }
        Check.due("README tells answers", rows > 29);
        everyCallIsShown(page);
        Check.finish("ReadmeTest");
    }

    private static long answer(RegretLine x, String name, String told) throws ReflectiveOperationException {
        Method call = null;
        for (Method m : RegretLine.class.getMethods()) {
            call = m.getName().equals(name) ? m : call;
        }
        if (call == null) {
            Check.due("there is a call " + name, false);
            return Long.MAX_VALUE;
        }
        String[] words = told.isEmpty() ? new String[0] : told.split(", ");
        Object[] taken = new Object[words.length];
        for (int k = 0; k < words.length; k++) {
            boolean flag = call.getParameterTypes()[k] == boolean.class;
            taken[k] = flag ? (Object) Boolean.valueOf(words[k]) : (Object) Integer.valueOf(words[k]);
        }
        return ((Number) call.invoke(x, taken)).longValue();
    }

    private static long number(String told) throws ReflectiveOperationException {
        boolean named = Character.isLetter(told.charAt(0));
        return named ? RegretLine.class.getField(told).getLong(null) : Long.parseLong(told);
    }

    private static void everyCallIsShown(String page) {
        Set<String> shown = new TreeSet<>();
        Matcher call = SHOWN.matcher(page);
        while (call.find()) {
            shown.add(call.group(1));
        }
        for (Method m : RegretLine.class.getMethods()) {
            if (m.getDeclaringClass() == RegretLine.class) {
                Check.due("README shows " + m.getName(), shown.contains(m.getName()));
            }
        }
    }
}
