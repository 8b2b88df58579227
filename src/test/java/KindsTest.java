/**
 * One of every KIND with every BEAT, PHASE and number, on TwoMinutes and on the second program: when it SOUNDS, how far
 * it REACHES, and what each of its ACTS answers and traces. Both must answer alike.
 */
public final class KindsTest {
    private static final int KINDS = 6, MOST_BEAT = 9, MOST_PHASE = 8, MOST_PEOPLE = 8, CORNERS = 12;
    /** LOUD and WATCH: as at first, at their ends, and where a lone cook or mother is quiet for some SECONDS. */
    private static final int[][] LAWS = {{1, 6}, {0, 0}, {9, 99}, {3, 20}};
    private static final int[] NUMBERS = {Integer.MIN_VALUE, -100, -7, -1, 0, 1, 50, Integer.MAX_VALUE};

    private static int wrong = 0;

    private static boolean soundsAlike(int kind, int beat, int phase, int[] laws) throws Exception {
        Twins twins = new Twins();
        boolean alike = twins.both("person", kind, beat, phase, phase) && twins.both("set", 1, laws[0]) && twins.both("set", 2, laws[1]);
        alike = alike && twins.both("of", 0, 6);
        for (int corner = 0; alike && corner < CORNERS; corner++) {
            alike = twins.both("corner", corner, 1) && twins.both("heard", corner, 30);
        }
        for (int second = 0; alike && second < 45; second++) {
            alike = twins.both("of", 0, 5) && twins.both("seconds", 1) && twins.both("state", 2);
        }
        return alike && twins.both("calm", 60) && twins.look();
    }

    private static boolean actsAlike(int kind, int beat, int number) throws Exception {
        Twins twins = new Twins();
        boolean alike = true;
        for (int who = 0; who < MOST_PEOPLE; who++) {
            alike = alike && twins.both("person", who == number ? kind : (kind + 1) % KINDS, beat, 0, 0);
        }
        alike = alike && twins.both("shelf", 3, 0, number);
        for (int as = 0; as < KINDS; as++) {
            alike = alike && twins.both("taken", 3, as);
        }
        for (int act = 0; act < 4; act++) {
            for (int x : NUMBERS) {
                alike = alike && twins.both("act", 3, act, x) && twins.both("many", 6);
                for (int i = 0; alike && i < 12; i++) {
                    alike = twins.both("trace", i);
                }
            }
        }
        return alike;
    }

    private static void count(boolean alike) {
        wrong += alike ? 0 : 1;
    }

    public static void main(String[] args) throws Exception {
        for (int kind = 0; kind < KINDS && wrong < 3; kind++) {
            for (int beat = 1; beat <= MOST_BEAT && wrong < 3; beat++) {
                for (int phase = 0; phase <= MOST_PHASE; phase++) {
                    for (int[] laws : LAWS) {
                        count(soundsAlike(kind, beat, phase, laws));
                    }
                }
                for (int number = 0; number < MOST_PEOPLE; number++) {
                    count(actsAlike(kind, beat, number));
                }
            }
        }
        System.out.println(wrong == 0 ? "every kind sounds, reaches and acts alike" : wrong + " runs differ");
        if (wrong != 0) {
            System.exit(1);
        }
    }
}
