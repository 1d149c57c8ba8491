import java.lang.reflect.InvocationTargetException;
import java.lang.reflect.Method;
import java.lang.reflect.Modifier;
import java.util.ArrayList;
import java.util.Comparator;
import java.util.List;
import java.util.Random;

/**
 * Rules 7 and 13 of LANGUAGE.md: "No call may ever throw by itself .. for any arguments in any state" and "the same calls
 * always give the same answers", whatever other objects are asked between them.
 */
public final class AnyArgumentsTest {
    private static final Check CHECK = new Check();
    private static final int OBJECTS = 400;
    private static final int CALLS = 512;
    private static final int[] INTS = {
        Integer.MIN_VALUE, Integer.MIN_VALUE + 1, -100, -9, -8, -7, -2, -1, 0, 1, 2, 3, 4, 5, 6, 7, 8, 9, 28, 29, 39, 40, 52,
        58, 59, 60, 100, 101, 3600, 12959999, 12960000, 1000000, 1000001, Integer.MAX_VALUE - 7, Integer.MAX_VALUE
    };
    private static final long[] LONGS = {
        Long.MIN_VALUE, Long.MIN_VALUE + 1, Integer.MIN_VALUE, -60, -1, 0, 1, 2, 7, 59, 60, 61, 3599, 3600, 12959999, 12960000,
        46655999999L, 46656000000L, 140737488355328L, 167772160000000L, 167961599999999L, 167961600000000L, 1L << 48,
        604661760000000000L, Long.MAX_VALUE / 60, Long.MAX_VALUE - 1, Long.MAX_VALUE
    };

    private final Random draw = new Random(60);
    private final List<Method> face = new ArrayList<>();

    public static void main(String[] args) throws IllegalAccessException {
        AnyArgumentsTest test = new AnyArgumentsTest();
        for (Method m : SixtyTablet.class.getDeclaredMethods()) {
            if (Modifier.isPublic(m.getModifiers())) {
                test.face.add(m);
            }
        }
        test.face.sort(Comparator.comparing(Method::getName));
        CHECK.due("calls of the face", test.face.size(), 30);
        for (int run = 0; run < OBJECTS; run++) {
            test.run();
        }
        CHECK.end();
    }

    /** One run on two objects, a third one being asked other things between. */
    private void run() throws IllegalAccessException {
        SixtyTablet one = new SixtyTablet();
        SixtyTablet same = new SixtyTablet();
        SixtyTablet between = new SixtyTablet();
        for (int call = 0; call < CALLS; call++) {
            Method m = face.get(draw.nextInt(face.size()));
            Object[] arguments = drawn(m);
            long answer = answer(one, m, arguments);
            Method other = face.get(draw.nextInt(face.size()));
            answer(between, other, drawn(other));
            CHECK.due(m.getName() + " of the same calls", answer(same, m, arguments), answer);
            CHECK.due(m.getName() + " answers no number that is refused in another way: " + answer, mayAnswer(m, answer), 1);
        }
    }

    private Object[] drawn(Method m) {
        Object[] arguments = new Object[m.getParameterCount()];
        for (int i = 0; i < arguments.length; i++) {
            if (m.getParameterTypes()[i] == long.class) {
                arguments[i] = draw.nextInt(3) == 0 ? LONGS[draw.nextInt(LONGS.length)] : (Object) (1 + (long) draw.nextInt(9999));
            } else {
                arguments[i] = draw.nextInt(3) == 0 ? INTS[draw.nextInt(INTS.length)] : draw.nextInt(4);
            }
        }
        return arguments;
    }

    private static long answer(SixtyTablet x, Method m, Object[] arguments) throws IllegalAccessException {
        try {
            return ((Number) m.invoke(x, arguments)).longValue();
        } catch (InvocationTargetException thrown) {
            CHECK.due(m.getName() + " threw " + thrown.getCause() + " for " + List.of(arguments), 0, 1);
            return 0;
        }
    }

    /** What is not refused is 0 or more; a refusal is one of the six numbers, of LOST in calls of great numbers. */
    private static int mayAnswer(Method m, long answer) {
        long refusal = m.getReturnType() == long.class ? answer - SixtyTablet.LOST : answer;
        return answer >= 0 || refusal <= -1 && refusal >= -6 ? 1 : 0;
    }
}
