import java.lang.reflect.InvocationTargetException;
import java.lang.reflect.Method;
import java.util.ArrayList;
import java.util.Arrays;
import java.util.List;

/**
 * Every call with every mix of arguments at and beside their edges, each on objects with one value of each kind:
 * the answer, and what is there behind it, against the model.
 */
public final class EveryArgumentTest {
    private static final long MIN = Integer.MIN_VALUE;
    private static final long MAX = Integer.MAX_VALUE;

    private static final long[] REGISTERS = {MIN, -1, 0, 1, 2, 3, 4, 5, 6, 7, 8, 9, 10, 11, 12, 13, 14, 15, 16, MAX};
    private static final long[] TARGETS = {MIN, -1, 3, 15, 16, MAX};
    private static final long[] TYPES = {MIN, -1, 0, 1, 2, 3, 4, 5, 6, 7, 8, 9, 10, 11, 12, 13, 14, 15, 16, 17, 18, 19, 2000, MAX};
    private static final long[] FEW = {MIN, -1, 0, 1, 2, 3, 4, MAX};
    private static final long[] COUNTS = {MIN, -1, 0, 1, 7, 8, 9, 62, 63, 999, 1000, 1001, MAX};
    private static final long[] NUMBERS = {Long.MIN_VALUE, MIN, -64, -1, 0, 1, 63, 64, 65535, 65536, MAX, Long.MAX_VALUE};

    private static final Object[][] STEPS = {
        {"type", 10, 2, 0}, {"type", 14, 2, 3}, {"type", 11, 2, 0}, {"type", 12, 2, 0}, {"type", 15, 2, 6}, {"type", 16, 2, 6},
        {"type", 13, 2, 0}, {"type", 17, 2, 2}, {"simple", 0, 0}, {"simple", 1, 1}, {"number", 2, 3, 5L}, {"number", 3, 2, -7L},
        {"bytes", 4, 6, 0x4241L, 2}, {"empty", 5, 10}, {"wrap", 6, 10, 0, 3}, {"wrap", 7, 11, 0, 3}, {"wrap", 8, 11, 1, 2},
        {"pair", 9, 3, 4}, {"empty", 10, 12}, {"cons", 10, 3, 10}, {"empty", 11, 13}, {"put", 11, 11, 3, 0}, {"empty", 12, 14},
        {"put", 12, 12, 3, 4}, {"empty", 13, 15}, {"put", 13, 13, 3, 4},
    };

    // Looks at what is there take some hundred calls more.
    private static final int MOST_CALLS = 300;
    private static final List<String> LOOKS = List.of(
            "ofType", "typeOf", "length", "which", "many", "digit", "isBelow", "byteAt", "has", "compare");
    private static final List<String> TRIED = new ArrayList<>();

    public static void main(String[] args) throws ReflectiveOperationException {
        every("type", TYPES, TYPES, TYPES);
        every("ofType", TYPES, FEW);
        every("number", TARGETS, TYPES, NUMBERS);
        every("times", TARGETS, REGISTERS, COUNTS);
        every("bytes", TARGETS, TYPES, NUMBERS, COUNTS);
        every("simple", REGISTERS, FEW);
        every("empty", REGISTERS, TYPES);
        every("wrap", TARGETS, TYPES, FEW, REGISTERS);
        every("pair", TARGETS, REGISTERS, REGISTERS);
        every("cons", TARGETS, REGISTERS, REGISTERS);
        every("put", TARGETS, REGISTERS, REGISTERS, REGISTERS);
        every("remove", TARGETS, REGISTERS, REGISTERS);
        every("part", TARGETS, REGISTERS, FEW);
        every("get", TARGETS, REGISTERS, REGISTERS);
        every("at", TARGETS, REGISTERS, FEW, FEW);
        every("move", REGISTERS, REGISTERS);
        every("clear", REGISTERS);
        every("typeOf", REGISTERS);
        every("length", REGISTERS);
        every("which", REGISTERS);
        every("many", REGISTERS);
        every("digit", REGISTERS, COUNTS);
        every("isBelow", REGISTERS);
        every("byteAt", REGISTERS, COUNTS);
        every("has", REGISTERS, REGISTERS);
        every("compare", REGISTERS, REGISTERS);
        Due.is("calls that were tried", TRIED.size(), 26);
        Due.end();
    }

    private static Method find(Class<?> in, String name) {
        for (Method m : in.getDeclaredMethods()) {
            if (m.getName().equals(name) && !m.isSynthetic()) {
                return m;
            }
        }
        throw new IllegalStateException(name);
    }

    private static long ask(Method m, Object on, Object[] arguments) throws ReflectiveOperationException {
        try {
            Object answer = m.invoke(on, arguments);
            return answer instanceof Boolean yes ? (yes ? 1 : 0) : (Integer) answer;
        } catch (InvocationTargetException thrown) {
            thrown.getCause().printStackTrace(System.out);
            return Long.MIN_VALUE;
        }
    }

    private static void make(Object on) throws ReflectiveOperationException {
        for (Object[] step : STEPS) {
            Object[] arguments = new Object[step.length - 1];
            System.arraycopy(step, 1, arguments, 0, arguments.length);
            if (ask(find(on.getClass(), (String) step[0]), on, arguments) < 0) {
                throw new IllegalStateException("a step was refused");
            }
        }
    }

    private static void every(String name, long[]... choices) throws ReflectiveOperationException {
        Method face = find(ValueTrees.class, name);
        Method model = find(Model.class, name);
        TRIED.add(name);
        int mixes = 1;
        for (long[] choice : choices) {
            mixes *= choice.length;
        }
        ValueTrees x = null;
        Model m = null;
        int calls = 0;
        for (int mix = 0; mix < mixes; mix++) {
            if (x == null) {
                x = new ValueTrees();
                m = new Model();
                make(x);
                make(m);
                calls = STEPS.length;
            }
            Object[] arguments = arguments(mix, choices, face);
            String call = name + Arrays.toString(arguments);
            long want = ask(model, m, arguments);
            Due.is(call, ask(face, x, arguments), want);
            calls++;
            // A call that was answered well may have changed what is there, so that the next one starts anew.
            if (calls > MOST_CALLS || want >= 0 && !LOOKS.contains(name)) {
                sameRegisters(call, x, m);
                x = null;
            }
        }
    }

    private static Object[] arguments(int mix, long[][] choices, Method face) {
        Object[] arguments = new Object[choices.length];
        int left = mix;
        for (int i = 0; i < choices.length; i++) {
            long chosen = choices[i][left % choices[i].length];
            left /= choices[i].length;
            if (face.getParameterTypes()[i] == long.class) {
                arguments[i] = chosen;
            } else {
                arguments[i] = (int) chosen;
            }
        }
        return arguments;
    }

    private static void sameRegisters(String call, ValueTrees x, Model m) {
        for (int r = 0; r < 16; r++) {
            String where = "behind " + call + ", register " + r + ": ";
            Due.is(where + "typeOf", x.typeOf(r), m.typeOf(r));
            Due.is(where + "length", x.length(r), m.length(r));
            Due.is(where + "which", x.which(r), m.which(r));
            Due.is(where + "many", x.many(r), m.many(r));
            Due.is(where + "digit", x.digit(r, 0), m.digit(r, 0));
            Due.is(where + "byteAt", x.byteAt(r, 0), m.byteAt(r, 0));
        }
        Due.is("behind " + call + ": the next type", x.type(17, 9, 9), m.type(17, 9, 9));
    }
}
