/**
 * TEXTS by the ten thousand, on TwoMinutes and on the second program's reader: every edit of one byte of some towns,
 * and every row of up to three words, also behind one that has begun. Both must tell the same FAULT, or the same town.
 */
public final class TextsTest {
    private static final int MOST_BYTES = 200;
    private static int wrong = 0;
    private static int compared = 0;

    private static final String[] TOWNS = {
        "neighbour at 1 beat 7;cook at3 phase 2 ;goal 99;",
        " mother at 11 beat 009 phase 8;watch 0;soldier at 10;",
        "officer  at 0 beat1phase0;loud 9;cough 99;baker at 2;goal 1;",
        "cook at 0;cook at 1;cook at 2;cook at 3;cook at 4;cook at 5;cook at 6;cook at 7;cough 5;",
    };

    private static final String[] WORDS = {
        "neighbour", "cook", "at", "beat", "phase", "goal", "loud", "mothers", "0", "9", "12", "100", "0001", ";", "=", "A",
    };

    private static void differ(String text, String what, long got, long due) {
        wrong++;
        System.out.println("<" + text + ">: " + what + " answered " + got + ", due is " + due);
    }

    private static void compareTown(String text, TwoMinutes x, SecondProgram.Model due) {
        for (int law = 0; law < 4; law++) {
            if (x.lawOf(law) != due.laws[law]) {
                differ(text, "lawOf(" + law + ")", x.lawOf(law), due.laws[law]);
            }
        }
        for (int who = 0; who < due.people.size(); who++) {
            for (int what = 0; what < 5; what++) {
                if (x.of(who, what) != due.people.get(who)[what]) {
                    differ(text, "of(" + who + ", " + what + ")", x.of(who, what), due.people.get(who)[what]);
                }
            }
        }
    }

    private static void compare(String text) {
        if (text.length() > MOST_BYTES) {
            return;
        }
        compared++;
        TwoMinutes x = new TwoMinutes();
        Sentences.feed(x, text);
        int got = x.town();
        try {
            SecondProgram.Model due = new SecondProgram.Reader(text).read(1);
            if (got != due.people.size()) {
                differ(text, "town()", got, due.people.size());
            } else {
                compareTown(text, x, due);
            }
        } catch (SecondProgram.Fault fault) {
            if (got != -100 - fault.place) {
                differ(text, "town()", got, -100 - fault.place);
            }
        }
    }

    private static void compareEdits(String text) {
        for (int at = 0; at <= text.length(); at++) {
            String ahead = text.substring(0, at);
            String behind = text.substring(at);
            compare(ahead);
            compare(behind);
            for (int sign = 0; sign < 256; sign++) {
                compare(ahead + (char) sign + behind);
                if (at < text.length()) {
                    compare(ahead + (char) sign + text.substring(at + 1));
                }
            }
            if (at < text.length()) {
                compare(ahead + text.substring(at + 1));
            }
            for (String word : WORDS) {
                compare(ahead + word + behind);
                compare(ahead + " " + word + " " + behind);
            }
        }
    }

    /** Every row of so many words behind a beginning, with a blank between two and without. */
    private static void compareRows(String begun, int words) {
        compare(begun);
        for (int i = 0; words > 0 && i < WORDS.length; i++) {
            compareRows(begun + WORDS[i], words - 1);
            compareRows(begun + " " + WORDS[i], words - 1);
        }
    }

    /** Every number of up to four digits, where each NUMBER stands. */
    private static void compareNumbers() {
        String[] ahead = {"cook at ", "cook at 3 beat ", "cook at 3 phase ", "goal ", "loud ", "watch ", "cough "};
        for (String begun : ahead) {
            for (int v = 0; v < 10000; v++) {
                compare(begun + v + ";");
                if (v < 100) {
                    compare(begun + "0" + v + ";");
                    compare(begun + "00" + v + ";");
                }
            }
        }
    }

    /** THE TAPE just full: the FAULT may lie at its end, or the last byte may be the one that was missing. */
    private static void compareFull() {
        for (String town : TOWNS) {
            String blanks = " ".repeat(MOST_BYTES - town.length());
            compare(town + blanks);
            compare(blanks + town);
            compare(town + blanks.substring(1) + "?");
            compare(blanks + town.substring(0, town.length() - 1) + " ");
        }
    }

    public static void main(String[] args) {
        for (String town : TOWNS) {
            compareEdits(town);
        }
        compareRows("", 3);
        compareRows("cook at 5", 3);
        compareRows("goal 7;", 3);
        compareNumbers();
        compareFull();
        System.out.println(wrong == 0 ? compared + " texts are read alike" : wrong + " answers differ");
        if (wrong != 0) {
            System.exit(1);
        }
    }
}
