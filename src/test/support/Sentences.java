import java.lang.reflect.InvocationTargetException;
import java.lang.reflect.Method;
import java.lang.reflect.Modifier;
import java.nio.charset.StandardCharsets;
import java.util.Arrays;
import java.util.Comparator;
import java.util.LinkedHashMap;
import java.util.Map;

/**
 * What tests of single sentences share. Each test is a static method without parameters that quotes, once, the words
 * of the document that it tests (QuotesTest looks whether they stand there, and whether any are left out).
 */
abstract class Sentences {
    static final int BAD = -1, FULL = -2, NONE = -3, MIN = Integer.MIN_VALUE, MAX = Integer.MAX_VALUE;
    static final int NEIGHBOUR = 0, COOK = 1, SOLDIER = 2, BAKER = 3, OFFICER = 4, MOTHER = 5;
    static final int GOAL = 0, LOUD = 1, WATCH = 2, COUGH = 3;

    private static int wrong;
    private static int quotes;
    private static String quoted = "";

    interface Call {
        long on(TwoMinutes x);
    }

    static void quote(String section, String words) {
        quotes++;
        quoted = section + ", \"" + words + "\"";
    }

    static void due(String what, long got, long want) {
        if (got != want) {
            wrong++;
            System.out.println(quoted + ": " + what + " answered " + got + ", due is " + want);
        }
    }

    /** All of these calls are due to answer the same. */
    static void all(String what, long want, long... got) {
        for (int i = 0; i < got.length; i++) {
            due(what + " [" + i + "]", got[i], want);
        }
    }

    interface With {
        long on(int v);
    }

    /** Below least and above most the answer is a refusal; at least and at most, and between them, it is not below 0. */
    static void range(String what, int least, int most, long refusal, With call) {
        all(what + " too small", refusal, call.on(least - 1), call.on(MIN));
        all(what + " too large", refusal, call.on(most + 1), call.on(MAX));
        for (int v = least; v <= most; v++) {
            due(what + " " + v + " is refused", Math.min(0, call.on(v)), 0);
        }
    }

    static void runAll(Class<?> tests) throws Exception {
        Method[] methods = tests.getDeclaredMethods();
        Arrays.sort(methods, Comparator.comparing(Method::getName));
        int ran = 0;
        for (Method m : methods) {
            if (!Modifier.isStatic(m.getModifiers()) || m.getParameterCount() != 0 || m.isSynthetic() || m.getReturnType() != void.class) {
                continue;
            }
            ran++;
            quotes = 0;
            quoted = m.getName();
            m.setAccessible(true);
            try {
                m.invoke(null);
            } catch (InvocationTargetException thrown) {
                wrong++;
                System.out.println(quoted + ": threw " + thrown.getCause());
            }
            if (quotes != 1) {
                wrong++;
                System.out.println(m.getName() + " quotes " + quotes + " sentences");
            }
        }
        System.out.println(wrong == 0 ? "all " + ran + " sentences hold" : wrong + " answers are not as due");
        if (wrong != 0 || ran == 0) {
            System.exit(1);
        }
    }

    // ---- towns

    /** TEXT to THE TAPE; the bytes of eight beyond n are all 255, and count nothing. */
    static void feed(TwoMinutes x, String text) {
        byte[] bytes = text.getBytes(StandardCharsets.ISO_8859_1);
        for (int at = 0; at < bytes.length; at += 8) {
            int n = Math.min(8, bytes.length - at);
            long eight = -1;
            for (int i = n - 1; i >= 0; i--) {
                eight = eight << 8 | bytes[at + i] & 255;
            }
            x.feed(eight, n);
        }
    }

    static TwoMinutes told(String text) {
        TwoMinutes x = new TwoMinutes();
        feed(x, text);
        int answer = x.town();
        due("town of <" + text + ">", answer < 0 ? answer : 0, 0);
        return x;
    }

    /** What town() answers to a TEXT, on a new object. */
    static int townOf(String text) {
        TwoMinutes x = new TwoMinutes();
        feed(x, text);
        return x.town();
    }

    static String blanks(int n) {
        return " ".repeat(n);
    }

    static TwoMinutes one(int kind, int beat, int phase, int corner) {
        TwoMinutes x = new TwoMinutes();
        x.person(kind, beat, phase, corner);
        return x;
    }

    /** Nobody, RUN 0, SECOND as told (a multiple of 60 and what is left over is passed by and forgotten). */
    static TwoMinutes from(int second) {
        TwoMinutes x = new TwoMinutes();
        for (int left = second; left > 0; left -= 60) {
            x.seconds(Math.min(60, left));
        }
        x.anew();
        return x;
    }

    /** In which of the next SECONDS one SOUNDS, as signs 0 and 1; these SECONDS go by. */
    static String sounds(TwoMinutes x, int person, int seconds) {
        StringBuilder signs = new StringBuilder();
        for (int i = 0; i < seconds; i++) {
            signs.append(x.of(person, 5));
            x.seconds(1);
        }
        return signs.toString();
    }

    /** At which CORNERS somebody that SOUNDS now is heard, from 0 to 11, as signs 0 and 1. */
    static String heardAt(TwoMinutes x) {
        StringBuilder signs = new StringBuilder();
        for (int corner = 0; corner < 12; corner++) {
            signs.append(x.corner(corner, 1) == 0 ? 0 : 1);
        }
        return signs.toString();
    }

    static void same(String what, String got, String want) {
        if (!got.equals(want)) {
            wrong++;
            System.out.println(quoted + ": " + what + " is " + got + ", due is " + want);
        }
    }

    // ---- all that can be seen of an object

    /**
     * A town with something of everything: eight PEOPLE, ROWS, SHEETS 0 to 2 (3 is missing), SHELVES 0 to 2 (one, a row
     * of bytes, a row of longs; 3 holds nothing), a TRACE, another town kept, and 197 bytes on THE TAPE.
     */
    static TwoMinutes full() {
        TwoMinutes x = one(MOTHER, 3, 2, 1);
        x.set(GOAL, 5);
        x.seed(5);
        x.seconds(3);
        x.keep();
        x.town();
        for (int i = 0; i < 8; i++) {
            x.person(i % 6, 9 - i, i, 11 - i);
        }
        x.set(GOAL, 50);
        x.set(LOUD, 2);
        x.set(WATCH, 30);
        x.set(COUGH, 40);
        x.seed(-77);
        x.seconds(40);
        x.prove(2, 9);
        x.alterRow(3, 1, -5);
        x.sheet(0, 0, 4);
        x.sheet(1, 1, 3);
        x.sheet(2, 3, 2);
        x.put(0, 0, 7);
        x.put(0, 3, -2);
        x.put(1, 1, -300);
        x.put(2, 1, MIN);
        x.shelf(0, 0, 4);
        x.shelf(1, 1, 0);
        x.shelf(2, 1, 2);
        x.act(0, 3, 1000);
        feed(x, "mother at 7 beat 2;goal 33;" + blanks(170));
        return x;
    }

    /** All that x shows, by the call that shows it; x is used up by this. */
    static Map<String, Long> look(TwoMinutes x) {
        Map<String, Long> seen = new LinkedHashMap<>();
        lookAtTown(x, "", seen);
        for (int i = 0; i < 10; i++) {
            for (int what = 0; what < 3; what++) {
                seen.put("row(" + i + ", " + what + ")", (long) x.row(i, what));
            }
        }
        for (int sheet = 0; sheet < 4; sheet++) {
            for (int sort = 0; sort < 4; sort++) {
                for (int i = 0; i < 5; i++) {
                    seen.put("item(" + sheet + ", " + sort + ", " + i + ")", (long) x.item(sheet, sort, i));
                }
            }
        }
        for (int shelf = 0; shelf < 4; shelf++) {
            for (int as = 0; as < 14; as = as == 5 ? 10 : as + 1) {
                seen.put("taken(" + shelf + ", " + as + ")", (long) x.taken(shelf, as));
            }
        }
        for (int i = 0; i < 12; i++) {
            seen.put("trace(" + i + ")", (long) x.trace(i));
        }
        seen.put("town()", (long) x.town());
        lookAtTown(x, "behind town(): ", seen);
        seen.put("again()", (long) x.again());
        lookAtTown(x, "behind again(): ", seen);
        return seen;
    }

    private static void lookAtTown(TwoMinutes x, String when, Map<String, Long> seen) {
        for (int what = 0; what < 6; what++) {
            seen.put(when + "state(" + what + ")", (long) x.state(what));
        }
        for (int what = 0; what < 7; what++) {
            seen.put(when + "many(" + what + ")", (long) x.many(what));
        }
        for (int law = 0; law < 4; law++) {
            seen.put(when + "lawOf(" + law + ")", (long) x.lawOf(law));
        }
        int people = x.many(0);
        for (int who = 0; who < people; who++) {
            for (int what = 0; what < 5; what++) {
                seen.put(when + "of(" + who + ", " + what + ")", (long) x.of(who, what));
            }
        }
        int z = x.seed(0);
        x.seed(z);
        seen.put(when + "z", (long) z);
    }

    /** A call on a full town answers as told, and nothing of that town is another one then. */
    static void unchanged(String what, long want, Call call) {
        TwoMinutes x = full();
        due(what, call.on(x), want);
        changed(what, x);
    }

    /** Whatever such a call answers on a full town, nothing of that town is another one then. */
    static void unchanged(String what, Call call) {
        TwoMinutes x = full();
        call.on(x);
        changed(what, x);
    }

    /** A full town on which something was called shows all as a new full one, but for the calls that are named. */
    static void changed(String what, TwoMinutes x, String... but) {
        Map<String, Long> was = look(full());
        Map<String, Long> is = look(x);
        for (String call : was.keySet()) {
            boolean free = false;
            for (String named : but) {
                free |= call.startsWith(named);
            }
            if (!free) {
                due("behind " + what + ": " + call, is.getOrDefault(call, -99999L), was.get(call));
            }
        }
    }
}
