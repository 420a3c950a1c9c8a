import java.lang.reflect.InvocationTargetException;
import java.lang.reflect.Method;
import java.util.Arrays;
import java.util.Comparator;

/**
 * Each call with all combinations of numbers at and around the bounds, on the class and on the Model:
 * answers and fault() are alike, so the refusals come in their order whatever else is wrong.
 */
public final class EdgesTest {
    private static final int MIN = Integer.MIN_VALUE, MAX = Integer.MAX_VALUE;
    /** By how many numbers a call takes: the more, the fewer of each are tried. */
    private static final int[][] EDGES = {
        {},
        {MIN, -10, -9, -8, -3, -2, -1, 0, 1, 2, 3, 4, 5, 7, 8, 9, 15, 16, 31, 32, 33, MAX},
        {MIN, -9, -2, -1, 0, 1, 2, 3, 4, 5, 7, 8, 9, 10, 20, 40, 59, 60, 61, 98, 99, 100, MAX},
        {MIN, -9, -2, -1, 0, 1, 2, 3, 4, 7, 8, 9, 59, 60, 61, MAX},
        {MIN, -1, 0, 1, 2, 3, 4, 5, 12, 16, 17, 18, 33, 34, MAX},
        {MIN, -1, 0, 1, 2, 3, 4, 5, MAX}};
    /** Whats of a seating and how many cells it has are told apart from the other edges. */
    private static final int[] WHATS = {MIN, -1, 0, 1, 2, 3, 4, 9, 10, 11, 12, 13, 14, MAX};
    private static final int CALLS = 512;

    private final int state;
    private RegretLine x;
    private Model model;
    private int calls;

    private EdgesTest(int state) {
        this.state = state;
        makeAnew();
    }

    public static void main(String[] args) throws ReflectiveOperationException {
        Method[] face = RegretLine.class.getDeclaredMethods();
        Arrays.sort(face, Comparator.comparing(Method::getName));
        for (int state = 0; state < 4; state++) {
            for (Method call : face) {
                if (java.lang.reflect.Modifier.isPublic(call.getModifiers())) {
                    new EdgesTest(state).all(call);
                }
            }
        }
        Check.finish("EdgesTest");
    }

    private void makeAnew() {
        x = new RegretLine();
        model = new Model();
        calls = 0;
        switch (state) {
            case 1 -> tellLine("r100;-,p000");
            case 2 -> tellLine("r123;-u,p305,h500");
            case 3 -> tellLine("r444;-u-u-u-u,p351,w417,h129,p583");
            default -> tellRow(0, 0, 'r', '1', '2', ';');
        }
        tellRow(1, 1, 0, 1, 2, 300);
        tellRow(2, 2, 2, 1, 0, 70000, -1);
    }

    private void tellRow(int k, int lane, int... cells) {
        x.sheet(k, lane, cells.length);
        model.sheet(k, lane, cells.length);
        for (int i = 0; i < cells.length; i++) {
            x.put(k, i, cells[i]);
            model.put(k, i, cells[i]);
        }
        calls += cells.length + 1;
    }

    private void tellLine(String text) {
        tellRow(0, 0, text.chars().toArray());
        x.line(0, 0, 0, text.length());
        model.line(0, 0, 0, text.length());
        x.reading(0, 1, 0);
        model.reading(0, 1, 0);
        x.talk(0, 0, 1);
        model.talk(0, 0, 1);
        calls += 3;
    }

    private void all(Method call) throws ReflectiveOperationException {
        Method twin = Model.class.getDeclaredMethod(call.getName(), call.getParameterTypes());
        Class<?>[] types = call.getParameterTypes();
        Object[] numbers = new Object[types.length];
        int[] edges = EDGES[types.length];
        int[] choices = new int[types.length];
        int ways = 1;
        for (int k = 0; k < types.length; k++) {
            choices[k] = types[k] == boolean.class ? 2 : isWhat(call, k) ? WHATS.length : edges.length;
            ways *= choices[k];
        }
        for (int way = 0; way < ways; way++) {
            int rest = way;
            for (int k = 0; k < types.length; k++) {
                int choice = rest % choices[k];
                rest /= choices[k];
                numbers[k] = types[k] == boolean.class ? (Object) (choice == 1)
                    : isWhat(call, k) ? WHATS[choice] : edges[choice];
            }
            compare(call, twin, numbers);
        }
    }

    private static boolean isWhat(Method call, int k) {
        return call.getName().equals("seating") && k == 4;
    }

    private void compare(Method call, Method twin, Object[] numbers) throws ReflectiveOperationException {
        // The call and fault(), and none behind the 512th.
        if (calls + 2 > CALLS) {
            makeAnew();
        }
        calls += 2;
        String told = "state " + state + ": " + call.getName() + Arrays.toString(numbers);
        long got = answer(call, x, numbers, told);
        Check.due(told, got, ((Number) twin.invoke(model, numbers)).longValue());
        Check.due(told + ": fault()", x.fault(), model.fault());
    }

    private static long answer(Method call, RegretLine x, Object[] numbers, String told) throws IllegalAccessException {
        try {
            return ((Number) call.invoke(x, numbers)).longValue();
        } catch (InvocationTargetException e) {
            Check.due(told + " threw " + e.getCause(), false);
            return Long.MAX_VALUE;
        }
    }
}
