import java.lang.reflect.Method;
import java.lang.reflect.Modifier;
import java.util.ArrayList;
import java.util.Arrays;
import java.util.LinkedHashMap;
import java.util.List;
import java.util.Map;
import java.util.TreeSet;

/**
 * Every call of the face with every choice of arguments at the edges (what is told, one less, one more, the ends of
 * int), in towns of several sorts, on TwoMinutes and on the second program: both must answer alike, and none throws.
 */
public final class EdgesTest {
    private static final int CALLS = 512, LOOK = 73;
    private static final int MIN = Integer.MIN_VALUE, MAX = Integer.MAX_VALUE;

    /** Of each call the edges of its arguments: pairs of the least and the most that some rule names. */
    private static final Map<String, int[][]> RANGES = new LinkedHashMap<>();

    private static final int[] WHO = {0, 7}, CORNER = {0, 11}, KIND = {0, 5}, BEAT = {1, 9}, PHASE = {0, 8}, FOUR = {0, 3}, TWO = {0, 1};
    private static final int[] SIXTY = {1, 60}, THIRTY = {1, 30}, ANY = {-9, 9999};

    private static void tell(String name, int[]... ranges) {
        RANGES.put(name, ranges);
    }

    private static void tellAll() {
        tell("set", FOUR, new int[] {1, 9, 99});
        tell("lawOf", FOUR);
        tell("person", KIND, BEAT, PHASE, CORNER);
        tell("of", WHO, new int[] {0, 1, 2, 3, 4, 5, 6});
        tell("mind", WHO, KIND);
        tell("change", WHO, new int[] {1, 2}, new int[] {0, 1, 8, 9});
        tell("bring", WHO, CORNER);
        tell("corner", CORNER, TWO);
        tell("seconds", SIXTY);
        tell("seed", ANY);
        tell("second");
        tell("spoilt", THIRTY);
        tell("state", new int[] {0, 1, 2, 3, 4, 5});
        tell("lasts", new int[] {0, 60});
        tell("length", SIXTY);
        tell("kept");
        tell("broken", TWO);
        tell("phaseFor", WHO, SIXTY);
        tell("beatFor", WHO, SIXTY);
        tell("kindFor", WHO, SIXTY);
        tell("pairFor", WHO, WHO, THIRTY);
        tell("awayFor", THIRTY, new int[] {0, 5, 12, 30, 99});
        tell("heard", CORNER, SIXTY);
        tell("calm", SIXTY);
        tell("fits", FOUR, WHO, TWO);
        tell("odds", PHASE, PHASE, TWO);
        tell("hope", new int[] {0, 50, 99}, TWO);
        tell("row", new int[] {0, 9}, new int[] {0, 2});
        tell("alterRow", new int[] {0, 9}, new int[] {0, 2}, ANY);
        tell("judge", WHO);
        tell("prove", WHO, new int[] {1, 10});
        tell("item", FOUR, FOUR, new int[] {0, 40});
        tell("put", FOUR, new int[] {0, 40}, new int[] {-128, 127, -32768, 32767});
        tell("minds", FOUR, new int[] {0, 5}, WHO, PHASE);
        tell("taken", FOUR, new int[] {0, 5, 10, 13});
        tell("act", FOUR, FOUR, new int[] {-7, 7});
        tell("trace", new int[] {0, 11, 30});
        tell("many", new int[] {0, 1, 2, 3, 4, 5, 6});
        tell("shelf", FOUR, new int[] {0, 2}, WHO);
        tell("sheet", FOUR, new int[] {-1, 3}, new int[] {0, 40});
        tell("anew");
        tell("again");
        tell("keep");
        tell("feed", new int[] {0, 255}, PHASE);
        tell("town");
    }

    private static List<Integer> edgesOf(int[] range, boolean isWhole) {
        TreeSet<Integer> edges = new TreeSet<>(List.of(MIN, -1, 0, MAX));
        for (int v : range) {
            edges.add(v - 1);
            edges.add(v);
            edges.add(v + 1);
        }
        for (int v = range[0]; isWhole && v < range[range.length - 1] && v < 100; v++) {
            edges.add(v);
        }
        return new ArrayList<>(edges);
    }

    /** Every choice of arguments, the last one going fastest; of up to two also all that lies between the edges. */
    private static List<long[]> choicesOf(String name) {
        boolean isWhole = RANGES.get(name).length <= 2;
        List<long[]> choices = new ArrayList<>();
        choices.add(new long[0]);
        for (int[] range : RANGES.get(name)) {
            List<long[]> longer = new ArrayList<>();
            for (long[] choice : choices) {
                for (int edge : edgesOf(range, isWhole)) {
                    long[] more = Arrays.copyOf(choice, choice.length + 1);
                    more[choice.length] = edge;
                    longer.add(more);
                }
            }
            choices = longer;
        }
        return choices;
    }

    private static final String[] TOWNS = {
        "",
        "neighbour at 3 beat 7 phase 2;",
        "mother at 0;officer at 6 beat 2 phase 8;goal 3;watch 9;",
        "neighbour at 1 beat 7;cook at 3 beat 8 phase 2;soldier at 5 beat 9;baker at 0 beat 6 phase 5;officer at 11 beat 4 phase 3;mother at 6;goal 5;",
        "cook at0beat1;baker at1beat2;officer at2beat3;mother at3;neighbour at4beat9;soldier at5beat6;cook at6beat7phase8;baker at7beat8;cough99;loud3;",
        "cook at 9 beat 9;cook at 9 beat 8;soldier at 2 beat 3;mother at 4 beat 4;officer at 5 beat 4;baker at 6 beat 5;watch 40;loud 9;cough 50;",
    };

    /** SHEETS of several sorts (3 is missing), SHELVES with one, the last one, a row, nothing, ROWS, a TRACE, a town kept. */
    private static boolean prepare(Twins twins, String town) throws Exception {
        int last = Math.max(0, town.split(" ?at").length - 2);
        return twins.both("keep") && twins.feedText(town, -1) && twins.both("town") && twins.both("seconds", 13)
            && twins.both("sheet", 0, 0, 5) && twins.both("sheet", 1, 1, 40) && twins.both("sheet", 2, 3, 1)
            && twins.both("put", 0, 0, 7) && twins.both("put", 0, 1, -7) && twins.both("put", 0, 4, 127)
            && twins.both("put", 1, 39, -1) && twins.both("put", 2, 0, -1)
            && twins.both("shelf", 0, 0, 0) && twins.both("shelf", 1, 0, last) && twins.both("shelf", 2, 1, 1)
            && twins.both("prove", 0, 10) && twins.both("alterRow", 9, 2, -3) && twins.both("act", 0, 3, 77);
    }

    /** How many calls were made; -1 if both did not answer alike. */
    private static int compare(String name, String town) throws Exception {
        int made = 0;
        Twins twins = null;
        for (long[] choice : choicesOf(name)) {
            if (twins == null || twins.calls + LOOK >= CALLS) {
                if (twins != null && !twins.look()) {
                    return -1;
                }
                twins = new Twins();
                if (!prepare(twins, town)) {
                    return -1;
                }
            }
            made++;
            if (!twins.both(name, choice)) {
                return -1;
            }
        }
        return twins.look() ? made : -1;
    }

    public static void main(String[] args) throws Exception {
        tellAll();
        int wrong = 0;
        int made = 0;
        for (Method m : TwoMinutes.class.getDeclaredMethods()) {
            if (Modifier.isPublic(m.getModifiers()) && (!RANGES.containsKey(m.getName())
                    || RANGES.get(m.getName()).length != m.getParameterCount())) {
                wrong++;
                System.out.println("no edges are told for " + m);
            }
        }
        for (String name : RANGES.keySet()) {
            for (String town : TOWNS) {
                int those = compare(name, town);
                made += Math.max(0, those);
                wrong += those < 0 ? 1 : 0;
            }
        }
        System.out.println(wrong == 0 ? "both programs answer alike at " + made + " edges" : wrong + " runs differ");
        if (wrong != 0) {
            System.exit(1);
        }
    }
}
