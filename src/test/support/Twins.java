import java.lang.reflect.InvocationTargetException;
import java.lang.reflect.Method;
import java.util.Arrays;
import java.util.HashMap;
import java.util.Map;

/** A TwoMinutes and the second program, on which the same calls are made; what both are asked is told if they differ. */
final class Twins {
    private static final Map<String, Method> FACE = new HashMap<>();

    static {
        for (Method m : TwoMinutes.class.getDeclaredMethods()) {
            FACE.put(m.getName(), m);
        }
    }

    final SecondProgram model = new SecondProgram();
    private final TwoMinutes tested = new TwoMinutes();
    private final StringBuilder told = new StringBuilder();
    int calls;

    private long call(String name, long[] args) throws Exception {
        Method m = FACE.get(name);
        Object[] boxed = new Object[args.length];
        for (int i = 0; i < args.length; i++) {
            boxed[i] = m.getParameterTypes()[i] == long.class ? (Object) args[i] : (Object) (int) args[i];
        }
        return ((Number) m.invoke(tested, boxed)).longValue();
    }

    /** True if both answer alike. */
    boolean both(String name, long... args) throws Exception {
        calls++;
        long due = model.answer(name, args);
        told.append(name).append(Arrays.toString(args)).append(" = ").append(due).append('\n');
        try {
            long got = call(name, args);
            if (got == due) {
                return true;
            }
            System.out.println(told + "but it answered " + got);
        } catch (InvocationTargetException thrown) {
            System.out.println(told + "but it threw " + thrown.getCause());
        }
        return false;
    }

    /** A TEXT to THE TAPE; what lies beyond the last byte counts nothing, and is taken from beyond. */
    boolean feedText(String text, long beyond) throws Exception {
        for (int at = 0; at < text.length(); at += 8) {
            int n = Math.min(8, text.length() - at);
            long eight = n < 8 ? beyond << 8 * n : 0;
            for (int i = 0; i < n; i++) {
                eight |= (long) text.charAt(at + i) << 8 * i;
            }
            if (!both("feed", eight, n)) {
                return false;
            }
        }
        return true;
    }

    /** All that can be seen of a town at once: at most 73 calls. */
    boolean look() throws Exception {
        for (int law = 0; law < 4; law++) {
            if (!both("lawOf", law)) return false;
        }
        for (int what = 0; what < 6; what++) {
            if (!both("state", what)) return false;
        }
        for (int what = 0; what < 7; what++) {
            if (!both("many", what)) return false;
        }
        for (int who = 0; who < model.now.people.size(); who++) {
            for (int what = 0; what < 7; what++) {
                if (!both("of", who, what)) return false;
            }
        }
        return true;
    }
}
