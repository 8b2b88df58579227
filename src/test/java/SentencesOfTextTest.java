/** Terms 2 from THE TAPE on (a town told in a TEXT), sentence by sentence. */
public final class SentencesOfTextTest extends Sentences {
    public static void main(String[] args) throws Exception {
        runAll(SentencesOfTextTest.class);
    }

    private static void fault(String text, int place) {
        due("town of <" + text + ">", townOf(text), -100 - place);
    }

    private static void right(String text, int people) {
        due("town of <" + text + ">", townOf(text), people);
    }

    private static void tape() {
        quote("Terms 2", "THE TAPE takes bytes, 200 at most; town() uses it up.");
        TwoMinutes x = new TwoMinutes();
        feed(x, "goal 7;" + blanks(192));
        due("199 bytes", x.many(5), 199);
        due("two more", x.feed(0x2020, 2), FULL);
        due("not one of them came", x.many(5), 199);
        due("one more", x.feed(' ', 1), 200);
        due("another one", x.feed(' ', 1), FULL);
        due("all is right", x.town(), 0);
        due("used up", x.many(5), 0);
        due("GOAL", x.lawOf(GOAL), 7);
        due("nothing is told", x.town(), 0);
        due("GOAL as at first", x.lawOf(GOAL), 12);
        x = new TwoMinutes();
        feed(x, blanks(193) + "loud 9;");
        due("right up to the 200th byte", x.town(), 0);
        due("LOUD", x.lawOf(LOUD), 9);
        for (int oneByte = 0; oneByte < 256; oneByte++) {
            x = new TwoMinutes();
            due("any byte", x.feed(oneByte, 1), 1);
            // only a blank can stand alone; behind a letter more must come, at its own end or it is no NAME at all
            due("byte " + oneByte, x.town(), oneByte == 32 ? 0 : -100);
        }
    }

    private static void textOfPeople() {
        quote("Terms 2", "TEXT: { KIND at N [ beat N ] [ phase N ] ;");
        right("", 0);
        right("mother at 1;", 1);
        right("mother at 1 beat 2;", 1);
        right("mother at 1 phase 2;", 1);
        right("mother at 1 beat 2 phase 3;", 1);
        right("mother at 1 beat 2 phase 3;mother at 1;goal 3;mother at 1 phase 2;", 3);
        fault("mother;", 6);
        fault("mother 1;", 7);
        fault("mother at;", 9);
        fault("mother at beat 2;", 10);
        fault("mother beat 2;", 7);
        fault("mother at 1 2;", 12);
        fault("mother at 1 beat;", 16);
        fault("mother at 1 beat phase 2;", 17);
        fault("mother at 1 phase;", 17);
        fault("mother at 1 phase 2 beat 3;", 20);
        fault("mother at 1 beat 2 beat 3;", 19);
        fault("mother at 1 phase 2 phase 3;", 20);
        fault("mother at 1 at 1;", 12);
        fault("mother at 1 mother at 1;", 12);
        fault("mother at 1 goal 3;", 12);
        fault("mother at 1;;", 12);
        fault(";", 0);
        fault("at 1;", 0);
        fault("beat 1;", 0);
        fault("phase 1;", 0);
        fault("1;", 0);
    }

    private static void textOfLaws() {
        quote("Terms 2", "| goal N ; | loud N ; | watch N ; | cough N ; }");
        right("goal 1;loud 2;watch 3;cough 4;", 0);
        right("cough 4;watch 3;loud 2;goal 1;goal 2;", 0);
        for (String law : new String[] {"goal", "loud", "watch", "cough"}) {
            int end = law.length();
            fault(law + ";", end);
            fault(law + " at 3;", end + 1);
            fault(law + " " + law + " 3;", end + 1);
            fault(law + " 3 4;", end + 3);
            fault(law + " 3 beat 4;", end + 3);
            fault(law + " 3;;", end + 3);
            fault(law + " 3;3;", end + 3);
        }
    }

    private static void people() {
        quote("Terms 2", "KIND (neighbour | cook | soldier | baker | officer | mother): one more AT a CORNER; BEAT (5 without), PHASE (0 without).");
        String[] names = {"neighbour", "cook", "soldier", "baker", "officer", "mother"};
        for (int kind = 0; kind < 6; kind++) {
            TwoMinutes x = told(names[kind] + " at 11;" + names[kind] + " at 0 beat 1 phase 0;" + names[kind] + " at 1 beat 9 phase 8;"
                    + names[kind] + " at 2 beat 2;" + names[kind] + " at 3 phase 3;");
            int[] beats = {5, 1, 9, 2, 5};
            int[] phases = {0, 0, 8, 0, 3};
            int[] corners = {11, 0, 1, 2, 3};
            due("how many", x.many(0), 5);
            for (int i = 0; i < 5; i++) {
                due("KIND", x.of(i, 0), kind);
                due("BEAT", x.of(i, 1), beats[i]);
                due("PHASE", x.of(i, 2), phases[i]);
                due("AT", x.of(i, 3), corners[i]);
                due("NOISE", x.of(i, 4), 0);
            }
            fault(names[kind].substring(1) + " at 1;", 0);
            fault(names[kind] + "s at 1;", 0);
            fault(names[kind].toUpperCase() + " at 1;", 0);
        }
    }

    private static void laws() {
        quote("Terms 2", "The others: the LAW.");
        TwoMinutes x = told("goal 31;loud 4;watch 15;cough 92;");
        due("GOAL", x.lawOf(GOAL), 31);
        due("LOUD", x.lawOf(LOUD), 4);
        due("WATCH", x.lawOf(WATCH), 15);
        due("COUGH", x.lawOf(COUGH), 92);
        due("the latest counts", told("watch 15;watch 0;").lawOf(WATCH), 0);
    }

    private static void allByItAlone() {
        quote("Terms 2", "It is all by it alone (what it doesn't tell is as at first); z stays.");
        TwoMinutes x = told("goal 2;loud 5;watch 3;cough 7;neighbour at 1 beat 3;neighbour at 2 beat 3;mother at 4;");
        x.seconds(9);
        x.seed(-5);
        feed(x, "cook at 5;");
        due("PEOPLE", x.town(), 1);
        due("GOAL", x.lawOf(GOAL), 12);
        due("LOUD", x.lawOf(LOUD), 1);
        due("WATCH", x.lawOf(WATCH), 6);
        due("COUGH", x.lawOf(COUGH), 20);
        all("SECOND, RUN, LONGEST, DONE, NOISE", 0, x.state(0), x.state(1), x.state(2), x.state(3), x.state(4), x.of(0, 4));
        due("PEOPLE", x.many(0), 1);
        due("no such one any more", x.of(1, 0), BAD);
        due("KIND", x.of(0, 0), COOK);
        due("z", x.seed(1), -5);
        // eight are there already: they count nothing
        x = full();
        due("one", x.town(), 1);
        due("another one", x.person(0, 1, 0, 0), 1);
        due("it hasn't heard anything", x.of(1, 4), 0);
        x.town();
        due("nobody", x.many(0), 0);
    }

    private static void names() {
        quote("Terms 2", "NAMES are rows of letters a to z");
        // the bytes next to a and z, and great letters, are no letters of a NAME
        fault("`cook at 1;", 0);
        fault("{cook at 1;", 0);
        fault("cook` at 1;", 4);
        fault("cook{ at 1;", 4);
        fault("cookA at 1;", 4);
        fault("cookZ at 1;", 4);
        fault("Cook at 1;", 0);
        fault("cook aT 1;", 5);
        fault("cook at\u00e9 1;", 7);
        String[] names = {"neighbour at 1;", "cook at 1;", "soldier at 1;", "baker at 1;", "officer at 1;", "mother at 1;", "goal 1;", "loud 1;",
            "watch 1;", "cough 1;"};
        for (String name : names) {
            for (int i = 0; i < name.indexOf(' '); i++) {
                fault(name.substring(0, i) + "x" + name.substring(i + 1), 0);
                fault(name.substring(0, i) + name.substring(i + 1), 0);
            }
        }
        String[] inner = {"bt 1;", "az 1;", "at 1 xeat 2;", "at 1 beax 2;", "at 1 bea 2;", "at 1 xhase 2;", "at 1 phasx 2;", "at 1 phas 2;"};
        int[] places = {5, 5, 10, 10, 10, 10, 10, 10};
        for (int i = 0; i < inner.length; i++) {
            fault("cook " + inner[i], places[i]);
        }
        fault("cooka at 1;", 0);
        fault("cookz at 1;", 0);
    }

    private static void numbers() {
        quote("Terms 2", "NUMBERS rows of digits (1 to 3)");
        due("one digit", told("cough 9;").lawOf(COUGH), 9);
        due("two digits", told("cough 09;").lawOf(COUGH), 9);
        due("three digits", told("cough 009;").lawOf(COUGH), 9);
        due("three digits", told("cough 099;").lawOf(COUGH), 99);
        due("three digits", told("cough 000;").lawOf(COUGH), 0);
        fault("cough 0009;", 6);
        fault("cough 0000;", 6);
        fault("cough 4294967297;", 6);
        fault("cough ;", 6);
        fault("cough /;", 6);
        fault("cough :;", 6);
        fault("cough 9/;", 7);
        fault("cough 9:;", 7);
        fault("cough -9;", 6);
        fault("cough +9;", 6);
        fault("mother at 0001;", 10);
        fault("mother at 1 beat 0001;", 17);
        fault("mother at 1 phase 0001;", 18);
        due("in all places", told("mother at 011 beat 009 phase 008;").of(0, 3), 11);
    }

    private static void asLongAsTheyGo() {
        quote("Terms 2", "both as long as they go");
        fault("motherat 1;", 0);
        fault("mother at 1 beat 1 phaseat 1;", 19);
        right("mother at1beat2phase3;goal4;", 1);
        due("a NUMBER ends where a NAME begins", told("mother at1beat2phase3;").of(0, 2), 3);
        fault("goal 3x;", 6);
        fault("goalx 3;", 0);
        fault("goal 123 4;", 5);
        fault("goal 12345;", 5);
    }

    private static void blanksPart() {
        quote("Terms 2", "blanks (32) part them, and stand elsewhere as one likes.");
        right("   mother   at   1   beat   2   phase   3   ;   goal   4   ;   ", 1);
        right(" ", 0);
        right(blanks(200), 0);
        right("mother at 1;mother at 2;", 2);
        fault("mo ther at 1;", 0);
        fault("mother a t 1;", 7);
        fault("goal 1 2;", 7);
        int[] others = {0, 9, 10, 13, 31, 33, 127, 128, 160, 255};
        for (int other : others) {
            fault("goal" + (char) other + "3;", 4);
            fault((char) other + "goal 3;", 0);
            fault("goal 3;" + (char) other, 7);
        }
    }

    private static void faultOfWhatCannotStandThere() {
        quote("Terms 2", "FAULT: the place (from 0) of the first byte of the first NAME, NUMBER or other byte that can't stand there or is not as told");
        fault("x", 0);
        fault("  x", 2);
        fault("goal 3;  kitchen at 3;", 9);
        fault("goal 3;  17 at 3;", 9);
        fault("goal 3;  , at 3;", 9);
        fault("goal 3,", 6);
        fault("mother in 3;", 7);
        fault("mother at x;", 10);
        fault("mother at 3 x;", 12);
        fault("mother at 3 beat x;", 17);
        fault("mother at 3 phase x;", 18);
        // the first alone is told
        fault("mother at 12 beat 0 phase 9,", 10);
        fault("mother at 11 beat 0 phase 9,", 18);
        fault("mother at 11 beat 1 phase 9,", 26);
        fault("mother at 11 beat 1 phase 8,", 27);
    }

    private static void faultOfARange() {
        quote("Terms 2", "(a NUMBER out of range, of more digits");
        fault("mother at 12;", 10);
        fault("mother at 999;", 10);
        fault("mother at 1000;", 10);
        fault("mother at 0000;", 10);
        fault("mother at 3 beat 0;", 17);
        fault("mother at 3 beat 10;", 17);
        fault("mother at 3 phase 9;", 18);
        fault("goal 0;", 5);
        fault("goal 000;", 5);
        fault("goal 100;", 5);
        fault("loud 10;", 5);
        fault("watch 100;", 6);
        fault("cough 100;", 6);
        fault("loud  0001;", 6);
    }

    private static void faultOfANinth() {
        quote("Terms 2", "the NAME of a ninth one)");
        StringBuilder eight = new StringBuilder();
        for (int i = 0; i < 8; i++) {
            eight.append("cook at ").append(i).append(';');
        }
        right(eight.toString(), 8);
        fault(eight + "cook at 8;", 80);
        fault(eight + "  mother at 8;", 82);
        fault(eight + "goal 3;soldier", 87);
        right(eight + "goal 3;", 8);
        fault(eight + "goal 0;mother at 8;", 85);
    }

    private static void faultAtTheEnd() {
        quote("Terms 2", "or the end (how many bytes there are), if more must come.");
        fault("mother", 6);
        fault("mother ", 7);
        fault("mother at", 9);
        fault("mother at 3", 11);
        fault("mother at 3 beat", 16);
        fault("mother at 3 beat 4", 18);
        fault("mother at 3 phase", 17);
        fault("mother at 3 phase 4", 19);
        fault("mother at 3 phase 4   ", 22);
        fault("goal", 4);
        fault("goal   ", 7);
        fault("goal 3", 6);
        fault("goal 3;loud", 11);
        fault("goal 3" + blanks(194), 200);
        fault(blanks(196) + "goal", 200);
        right("goal 3;", 0);
        right("goal 3;" + blanks(193), 0);
    }
}
