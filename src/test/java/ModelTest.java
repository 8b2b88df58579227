import java.util.Random;

/** Runs of calls, drawn with fixed seeds, on TwoMinutes and on the second program: both must answer alike. */
public final class ModelTest {
    private static final int RUNS = 3000, CALLS = 430;

    static final Random draws = new Random(1926);

    /** Mostly from least to most, now and then beyond, seldom anything. */
    static int some(int least, int most) {
        int d = draws.nextInt(40);
        if (d == 0) return draws.nextInt();
        if (d == 1) return least - 1;
        if (d == 2) return most + 1;
        if (d == 3) return draws.nextBoolean() ? Integer.MIN_VALUE : Integer.MAX_VALUE;
        return least + draws.nextInt(most - least + 1);
    }

    static String word(String... words) {
        return words[draws.nextInt(words.length)];
    }

    static String blanks(boolean must) {
        return must ? word(" ", " ", "  ") : word("", "", "", " ");
    }

    static String textNumber(int least, int most) {
        int d = draws.nextInt(60);
        int v = d == 0 ? most + 1 : d == 1 ? least - 1 : d == 2 ? draws.nextInt(3000) : least + draws.nextInt(most - least + 1);
        String digits = String.valueOf(Math.abs(v));
        return (draws.nextInt(20) == 0 ? word("0", "00", "000") : "") + digits;
    }

    static String text() {
        StringBuilder b = new StringBuilder(blanks(false));
        int statements = draws.nextInt(7) == 0 ? 0 : draws.nextInt(9);
        if (draws.nextInt(12) == 0) {
            for (int i = 0; i < 8 + draws.nextInt(2); i++) b.append("cook at").append(i).append(";");
            return b.toString();
        }
        for (int i = 0; i < statements; i++) {
            if (draws.nextInt(4) == 0) {
                int law = draws.nextInt(4);
                b.append(SecondProgram.Reader.LAWS.get(law)).append(blanks(false)).append(textNumber(SecondProgram.Reader.RANGES[law][0], SecondProgram.Reader.RANGES[law][1]));
            } else {
                b.append(SecondProgram.Reader.KINDS.get(draws.nextInt(6))).append(blanks(true)).append("at").append(blanks(false)).append(textNumber(0, 11));
                if (draws.nextBoolean()) b.append(blanks(false)).append("beat").append(blanks(false)).append(textNumber(1, 9));
                if (draws.nextBoolean()) b.append(blanks(false)).append("phase").append(blanks(false)).append(textNumber(0, 8));
            }
            b.append(blanks(false)).append(";").append(blanks(false));
        }
        if (draws.nextInt(3) == 0 && b.length() > 0) {
            int at = draws.nextInt(b.length());
            switch (draws.nextInt(4)) {
                case 0: b.deleteCharAt(at); break;
                case 1: b.insert(at, (char) draws.nextInt(256)); break;
                case 2: b.setLength(at); break;
                default: b.insert(at, word("a", "0", ";", " ", "at", "beat 3", "phase 3", "goal", "baker")); break;
            }
        }
        return b.toString();
    }

    static long[] longs(long... v) {
        return v;
    }

    static long[] argsFor(String name, SecondProgram model) {
        int last = Math.max(0, model.now.people.size() - 1);
        switch (name) {
            case "feed": return longs(draws.nextLong(), some(1, 8));
            case "set": {
                int law = some(0, 3);
                return longs(law, law == 1 ? some(0, 9) : law == 0 ? some(1, 30) : law == 2 ? some(0, 20) : some(0, 99));
            }
            case "lawOf": return longs(some(0, 3));
            case "person": return longs(some(0, 5), some(1, 9), some(0, 8), some(0, 11));
            case "of": return longs(some(0, last), some(0, 6));
            case "mind": return longs(some(0, last), some(0, 5));
            case "change": return longs(some(0, last), some(1, 2), some(0, 9));
            case "bring": return longs(some(0, last), some(0, 11));
            case "corner": return longs(some(0, 11), some(0, 1));
            case "seconds": return longs(draws.nextInt(3) == 0 ? some(1, 60) : some(1, 3));
            case "seed": return longs(draws.nextInt());
            case "spoilt": return longs(some(1, 30));
            case "state": return longs(some(0, 5));
            case "lasts": return longs(some(0, 60));
            case "length": case "calm": return longs(some(1, 60));
            case "broken": return longs(some(0, 1));
            case "phaseFor": case "beatFor": case "kindFor": return longs(some(0, last), some(1, 60));
            case "pairFor": return longs(some(0, last), some(0, last), some(1, 30));
            case "awayFor": return longs(some(1, 30), draws.nextInt(4) == 0 ? some(0, 99) : some(0, 20));
            case "heard": return longs(some(0, 11), some(1, 60));
            case "fits": return longs(some(0, 3), some(0, last), some(0, 1));
            case "odds": {
                int n = some(0, 8);
                return longs(n, some(0, Math.max(0, Math.min(8, n))), some(0, 1));
            }
            case "hope": return longs(some(0, 99), some(0, 1));
            case "prove": return longs(some(0, last), some(1, 10));
            case "row": return longs(some(0, Math.max(0, model.rows.size() - 1)), some(0, 2));
            case "alterRow": return longs(some(0, Math.max(0, model.rows.size() - 1)), some(0, 2), some(0, 3));
            case "judge": return longs(some(0, last));
            case "minds": return longs(some(0, 3), some(0, 6), some(0, last), some(0, 3));
            case "sheet": return longs(some(0, 3), draws.nextInt(3) == 0 ? 0 : some(-1, 3), draws.nextInt(3) == 0 ? some(0, 40) : some(0, 6));
            case "put": return longs(some(0, 3), some(0, 6), draws.nextInt(3) == 0 ? draws.nextInt() : some(-1, 5));
            case "item": return longs(some(0, 3), some(0, 3), some(0, 6));
            case "shelf": return longs(some(0, 3), some(0, 2), draws.nextBoolean() ? some(0, last) : some(0, 3));
            case "taken": return longs(some(0, 3), draws.nextBoolean() ? some(0, 5) : some(10, 13));
            case "act": return longs(some(0, 3), some(0, 3), draws.nextBoolean() ? draws.nextInt() : some(-20, 20));
            case "trace": return longs(some(0, 10));
            case "many": return longs(some(0, 6));
            default: return longs();
        }
    }

    static final String[] NAMES = {
        "feed", "town", "set", "lawOf", "person", "person", "person", "of", "mind", "change", "bring", "corner", "seconds", "seconds",
        "seed", "second", "spoilt", "state", "anew", "lasts", "length", "kept", "broken", "phaseFor", "beatFor", "kindFor",
        "pairFor", "awayFor", "heard", "calm", "fits", "fits", "odds", "hope", "prove", "row", "alterRow", "judge", "judge", "minds",
        "sheet", "put", "put", "item", "shelf", "shelf", "taken", "act", "act", "trace", "many", "keep", "again",
    };

    /** A SHEET that tells what does happen, so that FITS has something to find. */
    private static boolean tellSheet(Twins twins) throws Exception {
        SecondProgram.Model m = twins.model.now.copy();
        if (!twins.both("sheet", 0, 2, 5)) {
            return false;
        }
        for (int k = 0; k < 5; k++) {
            m.go(0, 0);
            if (!twins.both("put", 0, k, draws.nextInt(3) == 0 ? -1 : m.run)) {
                return false;
            }
        }
        return true;
    }

    private static boolean someCalls(Twins twins) throws Exception {
        if (draws.nextInt(25) == 0) {
            return twins.feedText(text(), draws.nextLong()) && twins.both("town");
        }
        if (draws.nextInt(60) == 0) {
            return twins.look();
        }
        if (draws.nextInt(20) == 0) {
            return tellSheet(twins);
        }
        String name = NAMES[draws.nextInt(NAMES.length)];
        return twins.both(name, argsFor(name, twins.model));
    }

    private static boolean isAlike() throws Exception {
        Twins twins = new Twins();
        while (twins.calls < CALLS) {
            if (!someCalls(twins)) {
                return false;
            }
        }
        return true;
    }

    public static void main(String[] args) throws Exception {
        int wrong = 0;
        for (int i = 0; i < RUNS && wrong < 3; i++) {
            if (!isAlike()) {
                wrong++;
            }
        }
        System.out.println(wrong == 0 ? "both programs answer alike" : wrong + " runs differ");
        if (wrong != 0) {
            System.exit(1);
        }
    }
}
