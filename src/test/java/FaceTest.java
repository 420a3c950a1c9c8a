import java.lang.reflect.Field;
import java.lang.reflect.Method;
import java.lang.reflect.Modifier;
import java.nio.file.Files;
import java.nio.file.Path;
import java.util.Arrays;
import java.util.Set;
import java.util.TreeSet;
import java.util.regex.Matcher;
import java.util.regex.Pattern;

/** The public face of the document, and those rules of LANGUAGE.md that a machine can look after. */
public final class FaceTest {
    private static final String[] METHODS = {
        "line(int,int,int,int)int", "ofPassenger(int,int)int", "seats(int,int)int", "limits(int,int)int",
        "dig(int,boolean)int", "talk(int,int,int)int", "regret(int,int)int", "due(int,int)int",
        "seating(int,int,int,int,int)int", "ease(int)int", "stuck()int", "help(int,int,int)int",
        "reading(int,int,int)int", "back(int)int", "began(int,int)int", "kinds(int)int", "fadings(int)int",
        "odds(int,int,int)long", "sheet(int,int,int)int", "lose(int)int", "put(int,int,int)int",
        "cell(int,int,int)long", "copy(int,int,int,int,int)int", "tell(int)int", "call(int)int",
        "as(int,int)int", "trace()int", "fault()int", "many(int)int"};
    private static final String[] NOT_TO_BE = {
        "\\bthrow\\b", "\\bthrows\\b", "\\btry\\b", "\\bcatch\\b", "\\bsynchronized\\b", "\\bassert\\b", "->", "::",
        "Exact\\b", "^package\\b", "\\bhashCode\\b", "\\btoString\\b", "\\bdouble\\b", "\\bfloat\\b",
        "\\bstatic \\{", "\\bvolatile\\b", "\\bSystem\\.(?!arraycopy)"};

    public static void main(String[] args) throws Exception {
        constants();
        members();
        source(Files.readString(Path.of(args.length > 0 ? args[0] : "src/main/java/RegretLine.java")));
        Check.finish("FaceTest");
    }

    private static void constants() {
        Check.due("UNKNOWN", RegretLine.UNKNOWN, -1);
        Check.due("OUTSIDE", RegretLine.OUTSIDE, -2);
        Check.due("STATE", RegretLine.STATE, -3);
        Check.due("FULL", RegretLine.FULL, -4);
        Check.due("NONE", RegretLine.NONE, -9);
        Check.due("LOST", RegretLine.LOST, Long.MIN_VALUE);
    }

    private static void members() {
        Class<?> face = RegretLine.class;
        Check.due("public and final", Modifier.isPublic(face.getModifiers()) && Modifier.isFinal(face.getModifiers()));
        Check.due("one constructor", face.getDeclaredConstructors().length, 1);
        Check.due("it is public", face.getConstructors().length, 1);
        Set<String> open = new TreeSet<>();
        Set<String> names = new TreeSet<>();
        for (Method m : face.getDeclaredMethods()) {
            if (Modifier.isPublic(m.getModifiers())) {
                String takes = Arrays.toString(m.getParameterTypes()).replaceAll("[\\[\\] ]", "");
                open.add(m.getName() + "(" + takes + ")" + m.getReturnType());
                names.add(m.getName());
            }
        }
        Check.due("methods " + open, open.equals(new TreeSet<>(Arrays.asList(METHODS))));
        for (Method m : face.getDeclaredMethods()) {
            boolean hidden = Modifier.isPrivate(m.getModifiers()) && !names.contains(m.getName());
            Check.due("method " + m.getName(), hidden != Modifier.isPublic(m.getModifiers()));
        }
        Set<String> constants = Set.of("UNKNOWN", "OUTSIDE", "STATE", "FULL", "NONE", "LOST");
        for (Field f : face.getDeclaredFields()) {
            Check.due("field " + f.getName(), Modifier.isPrivate(f.getModifiers()) != constants.contains(f.getName()));
        }
        Check.due("classes inside", face.getDeclaredClasses().length <= 11);
        for (Class<?> inside : face.getDeclaredClasses()) {
            Check.due("class " + inside.getName(), Modifier.isStatic(inside.getModifiers()));
            Check.due("fields of " + inside.getName(), inside.getDeclaredFields().length <= 20);
            for (Method m : inside.getDeclaredMethods()) {
                Check.due("method inside " + m.getName(), !names.contains(m.getName()));
            }
        }
    }

    private static void source(String text) {
        String code = text.replaceAll("(?s)/\\*.*?\\*/", "").replaceAll("//[^\n]*", "");
        for (String word : NOT_TO_BE) {
            Matcher found = Pattern.compile(word, Pattern.MULTILINE).matcher(code);
            Check.due("no " + word, !found.find());
        }
        Matcher imports = Pattern.compile("^import ([^;]+);", Pattern.MULTILINE).matcher(code);
        while (imports.find()) {
            String name = imports.group(1);
            Check.due("import " + name, Set.of("java.util.Arrays", "java.util.ArrayList", "java.util.List").contains(name));
        }
        Check.due("signs 1 to 127", text.chars().allMatch(c -> c >= 1 && c <= 127));
    }
}
