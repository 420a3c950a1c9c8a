import java.lang.reflect.Constructor;
import java.lang.reflect.Field;
import java.lang.reflect.Method;
import java.lang.reflect.Modifier;
import java.util.Arrays;
import java.util.Set;
import java.util.TreeSet;

/** The public face of the document: every constant, constructor and method, and no other member that is seen. */
public final class FaceTest {
    private static final String[] METHODS = {
        "line(int,int,int,int)int", "ofPassenger(int,int)int", "seats(int,int)int", "limits(int,int)int",
        "dig(int,boolean)int", "talk(int,int,int)int", "regret(int,int)int", "due(int,int)int",
        "seating(int,int,int,int,int)int", "ease(int)int", "stuck()int", "help(int,int,int)int",
        "reading(int,int,int)int", "back(int)int", "began(int,int)int", "kinds(int)int", "fadings(int)int",
        "odds(int,int,int)long", "sheet(int,int,int)int", "lose(int)int", "put(int,int,int)int",
        "cell(int,int,int)long", "copy(int,int,int,int,int)int", "tell(int)int", "call(int)int",
        "as(int,int)int", "trace()int", "fault()int", "many(int)int"};
    private static final String[] CONSTANTS = {
        "int UNKNOWN", "int OUTSIDE", "int STATE", "int FULL", "int NONE", "long LOST"};

    public static void main(String[] args) throws ReflectiveOperationException {
        valuesOfConstants();
        theClass();
        fields();
        methods();
        classesInside();
        Check.finish("FaceTest");
    }

    // By reflection: javac would write the values of constants into this test.
    private static void valuesOfConstants() throws ReflectiveOperationException {
        long[] values = {-1, -2, -3, -4, -9, Long.MIN_VALUE};
        for (int k = 0; k < CONSTANTS.length; k++) {
            Field constant = RegretLine.class.getField(CONSTANTS[k].split(" ")[1]);
            Check.due(CONSTANTS[k], constant.getLong(null), values[k]);
        }
    }

    private static void theClass() {
        int is = RegretLine.class.getModifiers();
        Check.due("public and final", Modifier.isPublic(is) && Modifier.isFinal(is));
        Check.due("above it is Object alone", RegretLine.class.getSuperclass() == Object.class);
        Check.due("it is nothing else", RegretLine.class.getInterfaces().length, 0);
        Check.due("no package", RegretLine.class.getPackageName().isEmpty());
        Constructor<?>[] made = RegretLine.class.getDeclaredConstructors();
        Check.due("one constructor", made.length, 1);
        Check.due("it is public", Modifier.isPublic(made[0].getModifiers()));
        Check.due("it takes nothing", made[0].getParameterCount(), 0);
    }

    private static void fields() {
        Set<String> open = new TreeSet<>();
        for (Field f : RegretLine.class.getDeclaredFields()) {
            int is = f.getModifiers();
            if (Modifier.isPrivate(is)) {
                continue;
            }
            open.add(f.getType() + " " + f.getName());
            Check.due(f.getName() + " is a public constant",
                Modifier.isPublic(is) && Modifier.isStatic(is) && Modifier.isFinal(is));
        }
        Check.due("constants " + open, open.equals(new TreeSet<>(Arrays.asList(CONSTANTS))));
    }

    private static Set<String> namesOfCalls() {
        Set<String> names = new TreeSet<>();
        for (String method : METHODS) {
            names.add(method.substring(0, method.indexOf('(')));
        }
        return names;
    }

    private static void methods() {
        Set<String> open = new TreeSet<>();
        for (Method m : RegretLine.class.getDeclaredMethods()) {
            int is = m.getModifiers();
            if (Modifier.isPrivate(is)) {
                Check.due("private " + m.getName() + " is named otherwise", !namesOfCalls().contains(m.getName()));
                continue;
            }
            String takes = Arrays.toString(m.getParameterTypes()).replaceAll("[\\[\\] ]", "");
            open.add(m.getName() + "(" + takes + ")" + m.getReturnType());
            Check.due(m.getName() + " is public, of an object", Modifier.isPublic(is) && !Modifier.isStatic(is));
            Check.due(m.getName() + " throws nothing", m.getExceptionTypes().length, 0);
        }
        Check.due("methods " + open, open.equals(new TreeSet<>(Arrays.asList(METHODS))));
    }

    private static void classesInside() {
        for (Class<?> inside : RegretLine.class.getDeclaredClasses()) {
            int is = inside.getModifiers();
            Check.due(inside + " is static", Modifier.isStatic(is));
            Check.due(inside + " is not seen", !Modifier.isPublic(is) && !Modifier.isProtected(is));
            for (Method m : inside.getDeclaredMethods()) {
                Check.due(inside + ": " + m.getName(), !namesOfCalls().contains(m.getName()));
            }
        }
    }
}
