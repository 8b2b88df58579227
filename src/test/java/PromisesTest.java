import java.nio.charset.StandardCharsets;

/** Each promise by hand: ordinary inputs, the edges that the document names, wrong inputs. */
public final class PromisesTest {
    private static final int BAD = -1, FULL = -2, NONE = -3;
    private static final int MIN = Integer.MIN_VALUE, MAX = Integer.MAX_VALUE;
    private static int wrong = 0;

    private static void due(String what, long got, long want) {
        if (got != want) {
            wrong++;
            System.out.println(what + ": answered " + got + ", due is " + want);
        }
    }

    /** Each of these is BAD (or another refusal). */
    private static void all(String what, long want, long... got) {
        for (int i = 0; i < got.length; i++) {
            due(what + " [" + i + "]", got[i], want);
        }
    }

    /** TEXT to THE TAPE; what follows the last byte in eight counts nothing. */
    private static void feed(TwoMinutes x, String text) {
        byte[] bytes = text.getBytes(StandardCharsets.ISO_8859_1);
        for (int at = 0; at < bytes.length; at += 8) {
            int n = Math.min(8, bytes.length - at);
            long eight = -1;
            for (int i = n - 1; i >= 0; i--) {
                eight = eight << 8 | bytes[at + i] & 255;
            }
            due("feed " + text, x.feed(eight, n), at + n);
        }
    }

    private static TwoMinutes told(String text) {
        TwoMinutes x = new TwoMinutes();
        feed(x, text);
        int answer = x.town();
        if (answer < 0) {
            due("town of " + text, answer, 0);
        }
        return x;
    }

    private static void fault(String text, int place) {
        TwoMinutes x = new TwoMinutes();
        x.person(0, 3, 2, 1);
        x.set(0, 50);
        x.seconds(2);
        x.prove(0, 4);
        feed(x, text);
        due("FAULT of <" + text + ">", x.town(), -100 - place);
        due("behind a FAULT: THE TAPE", x.many(5), 0);
        due("behind a FAULT: PEOPLE", x.many(0), 1);
        due("behind a FAULT: ROWS", x.many(4), 4);
        due("behind a FAULT: GOAL", x.lawOf(0), 50);
        due("behind a FAULT: SECOND", x.state(0), 2);
        due("behind a FAULT: PHASE", x.of(0, 2), 2);
    }

    private static void promise01() {
        TwoMinutes x = new TwoMinutes();
        for (int what = 0; what <= 6; what++) {
            due("1 many", x.many(what), 0);
        }
        for (int what = 0; what <= 5; what++) {
            due("1 state", x.state(what), 0);
        }
        due("1 GOAL", x.lawOf(0), 12);
        due("1 LOUD", x.lawOf(1), 1);
        due("1 WATCH", x.lawOf(2), 6);
        due("1 COUGH", x.lawOf(3), 20);
        due("1 nothing kept", x.again(), NONE);
        due("1 z", x.seed(5), 1);
        for (int i = 0; i < 4; i++) {
            due("1 SHEET", x.item(i, 0, 0), -11);
            due("1 SHELF", x.taken(i, 0), -11);
        }
        due("BAD", TwoMinutes.BAD, BAD);
        due("FULL", TwoMinutes.FULL, FULL);
        due("NONE", TwoMinutes.NONE, NONE);
    }

    private static void promise02() {
        TwoMinutes x = new TwoMinutes();
        all("2 BAD", BAD, x.feed(0, 0), x.feed(0, 9), x.feed(0, -1), x.feed(0, MIN), x.feed(0, MAX));
        due("2", x.feed('a', 1), 1);
        for (int i = 0; i < 24; i++) {
            due("2", x.feed(0x2020202020202020L, 8), 9 + 8 * i);
        }
        due("2 FULL by one", x.feed(0, 8), FULL);
        due("2 BAD ahead of FULL", x.feed(0, 9), BAD);
        due("2 nothing came", x.many(5), 193);
        due("2 just full", x.feed(0x20202020202020L, 7), 200);
        due("2 FULL", x.feed(32, 1), FULL);
        due("2 used up", x.town(), -100);
        due("2 empty again", x.feed(32, 1), 1);
        // the lowest byte first: "goal 3;" has 'g' lowest
        x = new TwoMinutes();
        due("2", x.feed(0x3b33206c616f67L, 7), 7);
        due("2", x.town(), 0);
        due("2 the lowest first", x.lawOf(0), 3);
    }

    private static void promise03() {
        TwoMinutes x = new TwoMinutes();
        x.set(0, 3);
        x.person(0, 9, 1, 4);
        x.seconds(9);
        x.prove(0, 3);
        x.seed(77);
        x.sheet(1, 2, 5);
        x.shelf(2, 1, 1);
        x.shelf(1, 0, 0);
        x.act(1, 1, 4);
        x.keep();
        feed(x, "neighbour at 3;cook  at11beat 9phase 8 ; soldier at 007 phase 4;baker at 0 beat 001;loud 0;watch 99;cough 0;");
        due("3", x.town(), 4);
        all("3 first", 0, x.of(0, 0), x.of(0, 2));
        all("3 BEAT without", 5, x.of(0, 1), x.of(2, 1));
        due("3", x.of(0, 3), 3);
        due("3", x.of(1, 0), 1);
        due("3", x.of(1, 1), 9);
        due("3", x.of(1, 2), 8);
        due("3", x.of(1, 3), 11);
        due("3", x.of(2, 0), 2);
        due("3", x.of(2, 2), 4);
        due("3", x.of(2, 3), 7);
        due("3", x.of(3, 0), 3);
        due("3", x.of(3, 1), 1);
        due("3 GOAL as at first", x.lawOf(0), 12);
        all("3 LAWS", 0, x.lawOf(1), x.lawOf(3));
        due("3 WATCH", x.lawOf(2), 99);
        all("3 as at first", 0, x.state(0), x.state(1), x.state(2), x.state(3), x.state(4), x.many(4), x.many(5));
        due("3 z stays", x.seed(1), 77);
        due("3 SHEETS stay", x.item(1, 2, 0), 0);
        due("3 SHELVES stay", x.taken(2, 12), 5);
        due("3 THE TRACE stays", x.many(6), 2);
        due("3 what is kept stays", x.again(), 1);
        due("3 PHASE 0, told", told("cook at 0 beat 1 phase 0;").of(0, 1), 1);
        due("3 COUGH 0, told", told("cough 000;").lawOf(3), 0);
        due("3 all six", told("officer at 1;mother at 2;neighbour at 3;cook at 4;soldier at 5;baker at 6;").many(0), 6);
        due("3 nothing", new TwoMinutes().town(), 0);
        due("3 blanks", told("   ").many(0), 0);
        due("3 the latest counts", told("goal 4;goal 99;goal 1;").lawOf(0), 1);
        due("3 the last byte", told("cough 99;").lawOf(3), 99);
        due("3 eight", told("cook at 0;cook at 1;cook at 2;cook at 3;cook at 4;cook at 5;cook at 6;cook at 7;").many(0), 8);
    }

    private static void promise03Faults() {
        fault("cook at 0;cook at 1;cook at 2;cook at 3;cook at 4;cook at 5;cook at 6;cook at 7;goal 3; cook at 0;", 88);
        fault("cook", 4);
        fault("cook ", 5);
        fault("cook at", 7);
        fault("cook at 3", 9);
        fault("cook at 3  ", 11);
        fault("cook at 3 beat", 14);
        fault("cook at 3 phase 2", 17);
        fault("goal", 4);
        fault("goal 3", 6);
        fault("cookat 3;", 0);
        fault("cookz at 3;", 0);
        fault("acook at 3;", 0);
        fault("goal 0012;", 5);
        fault("cook at 3/", 9);
        fault("cook at 3:", 9);
        fault("cook at 3`", 9);
        fault("cook at 3{", 9);
        fault("cook at 12;", 8);
        fault("cook at 0012;", 8);
        fault("cook at 3 beat 0;", 15);
        fault("cook at 3 beat 10;", 15);
        fault("cook at 3 phase 9;", 16);
        fault("cook at 3 phase 3 beat 3;", 18);
        fault("cook at 3 beat 3 beat 3;", 17);
        fault("cook at 3 phase 3 phase 3;", 18);
        fault("cook at 3 4;", 10);
        fault("cook 3;", 5);
        fault("goal 0;", 5);
        fault("goal 100;", 5);
        fault("loud 10;", 5);
        fault("watch 100;", 6);
        fault("cough 100;", 6);
        fault("goal at 3;", 5);
        fault("goal 3;;", 7);
        fault(";", 0);
        fault("3", 0);
        fault("at 3;", 0);
        fault("beat 3;", 0);
        fault("Cook at 3;", 0);
        fault("cooK at 3;", 0);
        fault("cookK at 3;", 4);
        fault("goal 3;cooks at 3;", 7);
        fault("goal 3 ,", 7);
        fault("goal\t3;", 4);
        fault("goal -3;", 5);
        fault("goal 1 2;", 7);
        fault("goal 3; \u00e9", 8);
        fault("goal 3;" + (char) 0, 7);
        fault("  kook at 3; mother", 2);
        fault("goal 3x;", 6);
        fault("goal x3;", 5);
        fault("cook at 3 when 3;", 10);
        // only the first fault counts
        fault("cook at 12 beat 0 phase 9", 8);
    }

    private static void promise04and05() {
        TwoMinutes x = new TwoMinutes();
        due("4 GOAL", x.set(0, 1), 12);
        due("4 LOUD", x.set(1, 0), 1);
        due("4 WATCH", x.set(2, 0), 6);
        due("4 COUGH", x.set(3, 0), 20);
        due("4 GOAL", x.set(0, 99), 1);
        due("4 LOUD", x.set(1, 9), 0);
        due("4 WATCH", x.set(2, 99), 0);
        due("4 COUGH", x.set(3, 99), 0);
        all("4 BAD", BAD, x.set(0, 0), x.set(0, 100), x.set(1, -1), x.set(1, 10), x.set(2, -1), x.set(2, 100), x.set(3, -1),
                x.set(3, 100), x.set(-1, 1), x.set(4, 1), x.set(MIN, 1), x.set(MAX, 1), x.set(0, MIN), x.set(0, MAX));
        due("5 GOAL", x.lawOf(0), 99);
        due("5 LOUD", x.lawOf(1), 9);
        due("5 WATCH", x.lawOf(2), 99);
        due("5 COUGH", x.lawOf(3), 99);
        all("5 BAD", BAD, x.lawOf(-1), x.lawOf(4), x.lawOf(MIN), x.lawOf(MAX));
    }

    private static void promise06() {
        TwoMinutes x = new TwoMinutes();
        all("6 BAD", BAD, x.person(-1, 1, 0, 0), x.person(6, 1, 0, 0), x.person(0, 0, 0, 0), x.person(0, 10, 0, 0),
                x.person(0, 1, -1, 0), x.person(0, 1, 9, 0), x.person(0, 1, 0, -1), x.person(0, 1, 0, 12));
        due("6 nobody came", x.many(0), 0);
        for (int i = 0; i < 8; i++) {
            due("6", x.person(i % 6, 1 + i, 8 - i, i + 4), i);
        }
        for (int i = 0; i < 8; i++) {
            due("6 KIND", x.of(i, 0), i % 6);
            due("6 BEAT", x.of(i, 1), 1 + i);
            due("6 PHASE", x.of(i, 2), 8 - i);
            due("6 AT", x.of(i, 3), i + 4);
            due("6 NOISE", x.of(i, 4), 0);
        }
        due("6 FULL", x.person(0, 1, 0, 0), FULL);
        due("6 BAD ahead of FULL", x.person(6, 1, 0, 0), BAD);
        due("6 still eight", x.many(0), 8);
    }

    private static void promise07() {
        TwoMinutes x = new TwoMinutes();
        x.person(0, 3, 1, 0);
        all("7 BAD", BAD, x.of(-1, 0), x.of(1, 0), x.of(MIN, 0), x.of(MAX, 0), x.of(0, -1), x.of(0, 7), x.of(0, MIN), x.of(0, MAX));
        // SECOND 0, 1, 2, ..: PHASE 1 and BEAT 3 meet at 2, 5
        for (int second = 0; second < 7; second++) {
            due("7 neighbour SOUNDS", x.of(0, 5), second % 3 == 2 ? 1 : 0);
            x.seconds(1);
        }
        x = told("cook at 0 beat 1;loud 2;");
        int[] cook = {0, 0, 1, 0, 0, 1};
        for (int second = 0; second < 6; second++) {
            due("7 cook SOUNDS", x.of(0, 5), cook[second]);
            x.seconds(1);
        }
        x = told("baker at 0 beat 9 phase 5;loud 3;");
        int[] baker = {1, 0, 0, 0, 1, 0, 0, 1};
        for (int second = 0; second < 8; second++) {
            due("7 baker SOUNDS", x.of(0, 5), baker[second]);
            x.seconds(1);
        }
        x = told("soldier at 0 beat 3;");
        for (int second = 0; second < 13; second++) {
            due("7 soldier SOUNDS", x.of(0, 5), second % 6 == 0 ? 1 : 0);
            x.seconds(1);
        }
        x = told("officer at 0 beat 2 phase 1;");
        // never as soldier; RUN is 4 behind four quiet SECONDS, then again and again
        for (int second = 0; second < 15; second++) {
            due("7 officer SOUNDS", x.of(0, 5), second % 5 == 4 ? 1 : 0);
            x.seconds(1);
        }
        x = told("officer at 0 beat 3 phase 1;");
        // as soldier at 2, 8, 14, ..; RUN is 6 never
        for (int second = 0; second < 15; second++) {
            due("7 officer SOUNDS as soldier", x.of(0, 5), second % 6 == 2 ? 1 : 0);
            x.seconds(1);
        }
        x = told("officer at 0 beat 4 phase 1;");
        for (int second = 0; second < 19; second++) {
            due("7 officer SOUNDS by RUN", x.of(0, 5), second % 9 == 8 ? 1 : 0);
            x.seconds(1);
        }
        x = told("mother at 0 beat 1;watch 3;");
        for (int second = 0; second < 9; second++) {
            due("7 mother SOUNDS", x.of(0, 5), second % 4 == 3 ? 1 : 0);
            x.seconds(1);
        }
        x = told("mother at 0;watch 0;");
        due("7 mother with WATCH 0", x.of(0, 5), 1);
        promise07Reaches();
    }

    private static void promise07Reaches() {
        TwoMinutes x = told("neighbour at 0;cook at 0;soldier at 0;baker at 0;officer at 0;mother at 0;loud 4;");
        int[] reach = {2, 6, 1, 12, 1, 6};
        for (int i = 0; i < 6; i++) {
            due("7 REACHES", x.of(i, 6), reach[i]);
        }
        int[] officer = {1, 1, 1, 2, 2, 2, 3, 3, 3};
        for (int phase = 0; phase < 9; phase++) {
            x.change(4, 2, phase);
            due("7 officer REACHES", x.of(4, 6), officer[phase]);
        }
    }

    private static void promise08to10() {
        TwoMinutes x = told("neighbour at 3 beat 4 phase 2;neighbour at 3 beat 1;");
        x.seconds(3);
        due("8", x.mind(0, 5), 0);
        due("8", x.mind(0, 3), 5);
        due("8 the same", x.mind(0, 3), 3);
        due("8 KIND", x.of(0, 0), 3);
        due("8 BEAT stays", x.of(0, 1), 4);
        due("8 PHASE stays", x.of(0, 2), 2);
        due("8 AT stays", x.of(0, 3), 3);
        due("8 NOISE stays", x.of(0, 4), 3);
        all("8 BAD", BAD, x.mind(-1, 0), x.mind(2, 0), x.mind(0, -1), x.mind(0, 6), x.mind(MIN, 0), x.mind(0, MAX));
        due("9", x.change(0, 1, 1), 4);
        due("9", x.change(0, 1, 9), 1);
        due("9", x.change(0, 2, 0), 2);
        due("9", x.change(0, 2, 8), 0);
        all("9 BAD", BAD, x.change(-1, 1, 1), x.change(2, 1, 1), x.change(0, 0, 1), x.change(0, 3, 1), x.change(0, 1, 0),
                x.change(0, 1, 10), x.change(0, 2, -1), x.change(0, 2, 9), x.change(0, MIN, 1), x.change(0, 1, MAX));
        due("9 BEAT", x.of(0, 1), 9);
        due("9 PHASE", x.of(0, 2), 8);
        due("9 another one stays", x.of(1, 1), 1);
        due("10", x.bring(0, 11), 3);
        due("10", x.bring(0, 0), 11);
        due("10 AT", x.of(0, 3), 0);
        all("10 BAD", BAD, x.bring(-1, 0), x.bring(2, 0), x.bring(0, -1), x.bring(0, 12), x.bring(MAX, 0), x.bring(0, MIN));
        due("10 AT still", x.of(0, 3), 0);
        due("10 another one stays", x.of(1, 3), 3);
    }

    private static void promise11() {
        TwoMinutes x = told("neighbour at 0 beat 1;neighbour at 1 beat 9 phase 1;soldier at 1;cook at 11;");
        due("11 those AT it", x.corner(0, 0), 1);
        due("11 those AT it", x.corner(1, 0), 6);
        due("11 nobody AT it", x.corner(2, 0), 0);
        due("11 those AT it", x.corner(11, 0), 8);
        int[] heard = {5, 5, 5, 0, 0, 0, 0, 0, 0, 0, 1, 1};
        for (int c = 0; c < 12; c++) {
            due("11 heard AT " + c, x.corner(c, 1), heard[c]);
        }
        all("11 BAD", BAD, x.corner(-1, 0), x.corner(12, 0), x.corner(0, -1), x.corner(0, 2), x.corner(MIN, 0), x.corner(0, MAX));
        x = told("mother at 3;watch 0;");
        for (int c = 0; c < 12; c++) {
            due("11 all round", x.corner(c, 1), 1);
        }
        x = told("officer at 10 beat 3 phase 6;");
        int[] round = {1, 1, 0, 0, 0, 0, 0, 1, 1, 1, 1, 1};
        for (int c = 0; c < 12; c++) {
            due("11 officer round", x.corner(c, 1), round[c]);
        }
    }

    private static void promise12() {
        TwoMinutes x = new TwoMinutes();
        all("12 BAD", BAD, x.seconds(0), x.seconds(61), x.seconds(-1), x.seconds(MIN), x.seconds(MAX));
        due("12 none went by", x.state(0), 0);
        due("12", x.seconds(11), 11);
        due("12 not DONE", x.state(3), 0);
        due("12", x.seconds(1), 12);
        due("12 DONE", x.state(3), 1);
        x.set(0, 99);
        due("12 DONE for good", x.state(3), 1);
        x.person(0, 1, 0, 0);
        due("12 broken", x.seconds(1), 0);
        due("12 DONE for good", x.state(3), 1);
        due("12 LONGEST", x.state(2), 12);
        x = new TwoMinutes();
        for (int i = 0; i < 166; i++) {
            x.seconds(60);
        }
        due("12", x.seconds(39), 9999);
        due("12 held", x.seconds(1), 9999);
        due("12 held", x.state(2), 9999);
        due("12 SECOND is not", x.state(0), 10000);
        due("12 tried, too", x.length(5), 9999);
        due("12 tried, too", x.lasts(5), 9999);
        promise12Noise();
    }

    private static void promise12Noise() {
        TwoMinutes x = told("neighbour at 0 beat 1;neighbour at 2 beat 1;neighbour at 5 beat 1;soldier at 4;mother at 11 beat 1;watch 0;");
        x.seconds(1);
        // 0 hears 1 and 4; 1 hears 0 and 4; 2 hears 3 and 4; 3 hears 1, 2 and 4; 4 hears 0
        int[] noise = {2, 2, 2, 3, 1};
        for (int i = 0; i < 5; i++) {
            due("12 NOISE of " + i, x.of(i, 4), noise[i]);
        }
        x = new TwoMinutes();
        for (int i = 0; i < 8; i++) {
            x.person(0, 1, 0, 6);
        }
        for (int i = 0; i < 23; i++) {
            x.seconds(60);
        }
        due("12 NOISE", x.of(3, 4), 7 * 60 * 23);
        x.seconds(48);
        due("12 NOISE", x.of(3, 4), 9996);
        x.seconds(1);
        due("12 NOISE is held", x.of(3, 4), 9999);
        due("12 NOISE of all", x.state(4), 9999 * 8);
        // a GOAL that RUN has passed already counts behind the next quiet SECOND
        x = new TwoMinutes();
        x.seconds(5);
        x.set(0, 3);
        due("12 DONE not yet", x.state(3), 0);
        x.seconds(1);
        due("12 DONE", x.state(3), 1);
    }

    private static void promise13to15() {
        TwoMinutes x = new TwoMinutes();
        due("13", x.seed(42), 1);
        due("13", x.seed(MIN), 42);
        due("13", x.seed(-7), MIN);
        due("14 nobody draws", x.second(), 1);
        due("14 z stays", x.seed(1), -7);
        x.person(0, 9, 1, 0);
        x.person(0, 9, 1, 1);
        // z = 1: draws 16838 and 38526; the first leaves 0 by 2, the second 26 by 100
        x.set(3, 26);
        due("14 no cough", x.second(), 2);
        due("14 z went on twice", x.seed(1), (1 * 1103515245 + 12345) * 1103515245 + 12345);
        x.set(3, 27);
        due("14 spoilt", x.spoilt(1), 1);
        due("14 a cough", x.second(), 0);
        due("14 the other one heard it", x.of(1, 4), 1);
        due("14 not itself", x.of(0, 4), 0);
        due("14 SECOND", x.state(0), 3);
        all("15 BAD", BAD, x.spoilt(0), x.spoilt(31), x.spoilt(-1), x.spoilt(MIN), x.spoilt(MAX));
        x.seed(1);
        x.set(3, 0);
        due("15 no odds, none", x.spoilt(30), 0);
        x.set(3, 50);
        int z = 1;
        int coughs = 0;
        for (int n = 1; n <= 30; n++) {
            z = z * 1103515245 + 12345;
            z = z * 1103515245 + 12345;
            coughs += (z >>> 16) % 100 < 50 ? 1 : 0;
            due("15 by " + n, x.spoilt(n), coughs);
        }
        due("15 nothing changes", x.state(0), 3);
        due("15 z neither", x.seed(1), 1);
        x.change(0, 1, 1);
        due("15 noise anyway", x.spoilt(30), 0);
        x = told("neighbour at 0 phase 1;");
        x.set(3, 99);
        due("14 one alone draws, too", x.second(), 0);
        due("14 z went on twice", x.seed(1), (1 * 1103515245 + 12345) * 1103515245 + 12345);
    }

    private static void promise16and17() {
        TwoMinutes x = told("neighbour at 0 beat 5;neighbour at 1 beat 5 phase 1;mother at 9;goal 3;");
        x.seconds(9);
        due("16 SECOND", x.state(0), 9);
        due("16 RUN", x.state(1), 3);
        due("16 LONGEST", x.state(2), 3);
        due("16 DONE", x.state(3), 1);
        due("16 NOISE", x.state(4), 3);
        due("16 those that SOUND", x.state(5), 2);
        all("16 BAD", BAD, x.state(-1), x.state(6), x.state(MIN), x.state(MAX));
        due("17", x.anew(), 3);
        due("17 SECOND stays", x.state(0), 9);
        all("17", 0, x.state(1), x.state(2), x.state(3), x.state(4), x.of(0, 4), x.of(1, 4), x.of(2, 4), x.anew());
        due("17 the PEOPLE stay", x.many(0), 3);
        due("17 LAWS stay", x.lawOf(0), 3);
    }

    private static void promise18and19() {
        TwoMinutes x = told("neighbour at 0 beat 4 phase 1;");
        x.seconds(1);
        int[] run = {1, 2, 3, 0, 1, 2, 3, 0};
        for (int n = 0; n < 8; n++) {
            due("18 by " + n, x.lasts(n), run[n]);
        }
        int[] length = {0, 2, 3, 3, 3};
        for (int n = 1; n < 5; n++) {
            due("19 by " + n, x.length(n), length[n]);
        }
        x.seconds(2);
        due("19 RUN now counts nothing", x.length(1), 0);
        due("18 RUN now", x.lasts(0), 3);
        due("18", x.lasts(60), 3);
        due("19", x.length(60), 3);
        all("18 BAD", BAD, x.lasts(-1), x.lasts(61), x.lasts(MIN), x.lasts(MAX));
        all("19 BAD", BAD, x.length(0), x.length(61), x.length(MIN), x.length(MAX));
        due("18 nothing changes", x.state(0), 3);
        due("18 nothing changes", x.state(1), 3);
        due("19 nothing changes", x.state(2), 3);
        due("19 nothing changes", x.state(4), 0);
    }

    private static void promise20and21() {
        TwoMinutes x = told("goal 60;");
        due("20", x.kept(), 60);
        x.set(0, 61);
        due("20 not by then", x.kept(), NONE);
        x.seconds(1);
        due("20", x.kept(), 60);
        x.set(0, 1);
        due("20", x.kept(), 1);
        x.seconds(1);
        due("20 already", x.kept(), 0);
        due("21 none", x.broken(0), NONE);
        due("21 none", x.broken(1), NONE);
        all("21 BAD", BAD, x.broken(-1), x.broken(2), x.broken(MIN), x.broken(MAX));
        x = told("mother at 0;neighbour at 2 beat 9;neighbour at 1 beat 9;watch 20;");
        x.seconds(1);
        due("21", x.broken(0), 9);
        due("21 the least one", x.broken(1), 1);
        due("20", x.kept(), NONE);
        x = told("mother at 0;watch 59;");
        due("21 just by then", x.broken(0), 60);
        due("21 just by then", x.broken(1), 0);
        x.set(2, 60);
        due("21 not by then", x.broken(0), NONE);
        due("20 and 21: nothing changes", x.state(0), 0);
        due("20 and 21: nothing changes", x.state(3), 0);
    }

    private static void promise22to24() {
        TwoMinutes x = told("neighbour at 0 beat 6;neighbour at 0 beat 6 phase 1;");
        // the other one SOUNDS at 5, 11, ..; with PHASE 1 (or 7) the first one SOUNDS with it
        due("22", x.phaseFor(0, 20), 1);
        due("22 of several the least", x.phaseFor(0, 1), 1);
        // the first one SOUNDS at 0; with BEAT 7, 8, 9 the second one is quiet up to 5
        due("23", x.beatFor(1, 6), 7);
        due("24 a cook keeps quiet at 0", x.kindFor(0, 20), 1);
        x = told("neighbour at 0 beat 2;");
        x.set(2, 9);
        due("24 the mother is quiet longest", x.kindFor(0, 20), 5);
        x.set(2, 0);
        x.set(1, 0);
        due("24 a cook is as a neighbour", x.kindFor(0, 20), 0);
        x.set(1, 9);
        due("24 a cook needs RUN", x.kindFor(0, 20), 1);
        due("22 nothing changes", x.of(0, 2), 0);
        due("23 nothing changes", x.of(0, 1), 2);
        due("24 nothing changes", x.of(0, 0), 0);
        due("23", x.beatFor(0, 60), 9);
        due("22 of one who does not care", told("mother at 0;").phaseFor(0, 60), 0);
        due("23 of one who does not care", told("mother at 0;").beatFor(0, 60), 1);
        all("22 BAD", BAD, x.phaseFor(-1, 1), x.phaseFor(1, 1), x.phaseFor(0, 0), x.phaseFor(0, 61), x.phaseFor(MIN, 1), x.phaseFor(0, MAX));
        all("23 BAD", BAD, x.beatFor(-1, 1), x.beatFor(1, 1), x.beatFor(0, 0), x.beatFor(0, 61), x.beatFor(MIN, 1), x.beatFor(0, MAX));
        all("24 BAD", BAD, x.kindFor(-1, 1), x.kindFor(1, 1), x.kindFor(0, 0), x.kindFor(0, 61), x.kindFor(MIN, 1), x.kindFor(0, MAX));
    }

    private static void promise25() {
        TwoMinutes x = told("neighbour at 0 beat 9;neighbour at 0 beat 9 phase 3;neighbour at 0 beat 9 phase 4;");
        // the third one SOUNDS at 5, 14, 23; with PHASE 4 of both it is quiet from 6 to 13
        due("25", x.pairFor(0, 1, 30), 44);
        x.change(2, 2, 0);
        x.seconds(1);
        due("25 all at one time", x.pairFor(0, 1, 30), 0);
        x = told("neighbour at 0 beat 9;neighbour at 0 beat 4;");
        // quiet from 0 to 2: PHASE 1 of the first one (at 8), 1 of the second one (at 3)
        due("25", x.pairFor(0, 1, 3), 11);
        due("25 the other way", x.pairFor(1, 0, 3), 11);
        x = told("neighbour at 0 beat 1;soldier at 0 beat 2;");
        due("25 never quiet", x.pairFor(0, 1, 9), 0);
        x = told("neighbour at 0 beat 9;neighbour at 0 beat 9;neighbour at 0 beat 9 phase 8;");
        due("25 the greatest PHASES", x.pairFor(0, 1, 12), 88);
        x = told("soldier at 0 beat 2;mother at 0;watch 50;");
        due("25 the first one's counts", x.pairFor(0, 1, 9), 10);
        due("25 the second one's counts", x.pairFor(1, 0, 9), 1);
        all("25 BAD", BAD, x.pairFor(0, 0, 9), x.pairFor(1, 1, 9), x.pairFor(-1, 0, 9), x.pairFor(0, 2, 9), x.pairFor(2, 0, 9),
                x.pairFor(0, -1, 9), x.pairFor(0, 1, 0), x.pairFor(0, 1, 31), x.pairFor(MIN, MAX, 1), x.pairFor(0, 1, MAX));
        due("25 nothing changes", x.of(0, 2), 0);
        due("25 nothing changes", x.state(0), 0);
    }

    private static void promise26() {
        TwoMinutes x = told("neighbour at 0 beat 1;mother at 0;neighbour at 0 beat 1;watch 4;");
        due("26 none needed", x.awayFor(9, 0), 0);
        due("26 both", x.awayFor(9, 4), 5);
        due("26 all", x.awayFor(9, 5), 7);
        due("26 all", x.awayFor(9, 9), 7);
        due("26 by no set", x.awayFor(9, 10), NONE);
        x = told("neighbour at 0 beat 2;neighbour at 0 beat 2 phase 1;");
        due("26 of several the least", x.awayFor(9, 1), 1);
        x = told("neighbour at 0 beat 2;neighbour at 0 beat 2 phase 1;neighbour at 0 beat 2;");
        due("26 fewest ahead of least", x.awayFor(9, 1), 2);
        all("26 BAD", BAD, x.awayFor(0, 1), x.awayFor(31, 1), x.awayFor(1, -1), x.awayFor(1, 100), x.awayFor(MIN, 1), x.awayFor(1, MAX));
        x = new TwoMinutes();
        x.seconds(60);
        due("26 RUN now counts", x.awayFor(30, 90), 0);
        due("26 not so long", x.awayFor(30, 91), NONE);
        x.seconds(60);
        due("26 99 at most", x.awayFor(1, 99), 0);
        due("26 nothing changes", x.state(0), 120);
    }

    private static void promise27and28() {
        TwoMinutes x = told("neighbour at 0 beat 2;soldier at 4 beat 1;");
        // both SOUND in even SECONDS; 10 to 2 and 3 to 5
        int[] heard = {5, 5, 5, 5, 5, 5, 0, 0, 0, 0, 5, 5};
        for (int c = 0; c < 12; c++) {
            due("27 AT " + c, x.heard(c, 10), heard[c]);
        }
        due("28", x.calm(10), 6);
        due("28", x.calm(1), 6);
        due("28", x.calm(60), 6);
        due("27 also where one is", x.heard(0, 1), 1);
        due("27", x.heard(0, 60), 30);
        x.bring(1, 8);
        due("28", x.calm(10), 3);
        x.mind(1, 5);
        x.set(2, 1);
        due("28 also where few are", x.calm(10), 3);
        x.seconds(1);
        all("27 BAD", BAD, x.heard(-1, 1), x.heard(12, 1), x.heard(0, 0), x.heard(0, 61), x.heard(MIN, 1), x.heard(0, MAX));
        all("28 BAD", BAD, x.calm(0), x.calm(61), x.calm(MIN), x.calm(MAX));
        due("27 nothing changes", x.state(0), 1);
        due("28 of several the least", new TwoMinutes().calm(60), 0);
        x = told("neighbour at 6 beat 1;neighbour at 10 beat 2;neighbour at 2 beat 3;");
        // all are heard everywhere but at no CORNER by none: 0 hears the second and third
        due("28 rarest", x.calm(12), 1);
        due("27", x.heard(1, 12), 4);
        due("27 either of two", x.heard(0, 12), 8);
    }

    private static void promise29() {
        TwoMinutes x = told("neighbour at 0 beat 4 phase 1;");
        x.sheet(0, 0, 3);
        // 1, 2, 0: SOUNDS at 2: PHASES 2, 6
        x.put(0, 0, 1);
        x.put(0, 1, 2);
        due("29", x.fits(0, 0, 0), 2);
        due("29", x.fits(0, 0, 1), 2);
        x.put(0, 0, -1);
        x.put(0, 1, -1);
        due("29 any", x.fits(0, 0, 0), 2);
        x.put(0, 2, -1);
        due("29 all any", x.fits(0, 0, 0), 9);
        due("29 all any", x.fits(0, 0, 1), 0);
        x.put(0, 0, -2);
        due("29 none", x.fits(0, 0, 0), 0);
        due("29 none", x.fits(0, 0, 1), NONE);
        x.sheet(0, 3, 1);
        due("29 a SHEET of longs: 0, 4, 8", x.fits(0, 0, 0), 3);
        x.sheet(0, 2, 0);
        due("29 of nothing", x.fits(0, 0, 0), 9);
        all("29 BAD", BAD, x.fits(-1, 0, 0), x.fits(4, 0, 0), x.fits(0, -1, 0), x.fits(0, 1, 0), x.fits(0, 0, -1), x.fits(0, 0, 2),
                x.fits(1, 1, 0), x.fits(1, 0, 2));
        due("29 missing", x.fits(1, 0, 0), -11);
        due("29 missing", x.fits(1, 0, 1), -11);
        due("29 nothing changes", x.of(0, 2), 1);
        due("29 nothing changes", x.state(0), 0);
        x.seconds(3);
        x.sheet(0, 0, 1);
        due("29 from now: SOUNDS at 3", x.fits(0, 0, 1), 1);
    }

    private static void promise30and31() {
        TwoMinutes x = told("cough 50;");
        due("30", x.odds(2, 1, 0), 1);
        due("30", x.odds(2, 1, 1), 2);
        due("30", x.odds(8, 4, 0), 35);
        due("30", x.odds(8, 4, 1), 128);
        due("30", x.odds(0, 0, 1), 1);
        due("31", x.hope(3, 0), 3);
        due("31", x.hope(3, 1), 2);
        due("31", x.hope(99, 0), 99);
        x.set(3, 99);
        due("30", x.odds(8, 8, 0), 9227446944279201L);
        due("30", x.odds(8, 8, 1), 10000000000000000L);
        due("30", x.odds(8, 0, 0), 1);
        due("30", x.odds(1, 0, 1), 100);
        due("31", x.hope(99, 0), 9801);
        due("31", x.hope(99, 1), 100);
        due("31", x.hope(0, 0), 0);
        due("31", x.hope(0, 1), 1);
        x.set(3, 0);
        due("30 certain", x.odds(8, 0, 0), 1);
        due("30 certain", x.odds(8, 0, 1), 1);
        due("30 never", x.odds(8, 3, 0), 0);
        due("30 never", x.odds(8, 3, 1), 1);
        all("30 BAD", BAD, x.odds(-1, 0, 0), x.odds(9, 0, 0), x.odds(3, -1, 0), x.odds(3, 4, 0), x.odds(3, 1, -1), x.odds(3, 1, 2),
                x.odds(MIN, 0, 0), x.odds(MAX, MAX, 0), x.odds(3, MIN, 0), x.odds(3, 1, MAX));
        all("31 BAD", BAD, x.hope(-1, 0), x.hope(100, 0), x.hope(1, -1), x.hope(1, 2), x.hope(MIN, 0), x.hope(MAX, 1));
    }

    private static void promise32to34() {
        TwoMinutes x = told("neighbour at 0 beat 2;neighbour at 1 beat 3;");
        due("33 none", x.row(0, 0), -9);
        due("34 none", x.alterRow(0, 0, 1), -9);
        due("32", x.prove(0, 7), 7);
        // SECONDS 0 to 6: the first one SOUNDS at 0 2 4 6, the second one at 0 3 6
        int[][] rows = {{1, 0, 1}, {0, 1, 1}, {1, 0, 1}, {0, 0, 2}, {1, 0, 2}, {0, 1, 2}, {1, 0, 3}};
        for (int i = 0; i < 7; i++) {
            for (int what = 0; what < 3; what++) {
                due("33 row " + i, x.row(i, what), rows[i][what]);
            }
        }
        all("33 -9", -9, x.row(-1, 0), x.row(7, 0), x.row(0, -1), x.row(0, 3), x.row(MIN, 0), x.row(0, MAX));
        all("34 -9", -9, x.alterRow(-1, 0, 1), x.alterRow(7, 0, 1), x.alterRow(0, -1, 1), x.alterRow(0, 3, 1), x.alterRow(MAX, 0, 1));
        due("34", x.alterRow(2, 1, MIN), 0);
        due("34", x.row(2, 1), MIN);
        due("34", x.alterRow(2, 1, 5), MIN);
        all("32 BAD", BAD, x.prove(-1, 1), x.prove(2, 1), x.prove(0, 0), x.prove(0, 11), x.prove(MIN, 1), x.prove(0, MAX));
        due("32 BAD changes nothing", x.row(2, 1), 5);
        due("32", x.prove(1, 2), 2);
        due("32 the ROWS before are gone", x.row(2, 0), -9);
        due("32 the second one", x.row(0, 2), 1);
        due("32", x.prove(1, 10), 10);
        due("33 the last", x.row(9, 0), 1);
        due("32 nothing else changes", x.state(0), 0);
        due("32 nothing else changes", x.state(4), 0);
        x.keep();
        x.again();
        due("45, 46: ROWS stay", x.many(4), 10);
    }

    private static void promise35() {
        TwoMinutes x = told("neighbour at 0 beat 2;neighbour at 1 beat 3;neighbour at 6 beat 2;");
        due("35 none", x.judge(0), 0);
        due("35 BAD", x.judge(3), BAD);
        due("35 BAD", x.judge(-1), BAD);
        due("35 BAD", x.judge(MIN), BAD);
        due("35 BAD", x.judge(MAX), BAD);
        x.prove(0, 10);
        due("35 right", x.judge(0), 0);
        due("35 not those of the second one", x.judge(1), 3);
        due("35 the third one hears nothing", x.judge(2), 1);
        for (int i = 9; i >= 0; i--) {
            int was = x.alterRow(i, i % 3, 77);
            due("35 altered", x.judge(0), i + 1);
            x.alterRow(i, i % 3, was);
            due("35 right again", x.judge(0), 0);
        }
        for (int i = 9; i >= 0; i--) {
            x.alterRow(i, i % 3, -1);
            due("35 the first one", x.judge(0), i + 1);
        }
        x.prove(0, 10);
        x.change(0, 2, 1);
        due("35 from how it is now", x.judge(0), 1);
        x.change(0, 2, 0);
        x.seconds(6);
        due("35 NOISE differs now", x.judge(0), 1);
        x.anew();
        due("35 NOISE and SECOND as they count", x.judge(0), 0);
        due("35 nothing changes", x.state(0), 6);
    }

    private static void promise36() {
        TwoMinutes x = told("neighbour at 0;neighbour at 0;neighbour at 0;neighbour at 0;");
        x.sheet(0, 0, 4);
        x.put(0, 0, 9);
        x.put(0, 1, -1);
        x.put(0, 2, 8);
        x.put(0, 3, 5);
        due("36", x.minds(0, 0, 0, 4), 4);
        int[] phases = {8, 0, 8, 5};
        for (int i = 0; i < 4; i++) {
            due("36 PHASE of " + i, x.of(i, 2), phases[i]);
        }
        due("36", x.minds(0, 3, 1, 1), 1);
        due("36 one", x.of(1, 2), 5);
        due("36 only that", x.of(2, 2), 8);
        due("36 the last one", x.minds(0, 2, 2, 2), 2);
        due("36 none", x.minds(0, 4, 3, 0), 0);
        all("36 -12", -12, x.minds(0, 5, 0, 0), x.minds(0, -1, 0, 1), x.minds(0, 4, 0, 1), x.minds(0, 1, 0, 4), x.minds(0, MAX, 0, 1), x.minds(0, MIN, 0, 0));
        all("36 BAD", BAD, x.minds(-1, 0, 0, 1), x.minds(4, 0, 0, 1), x.minds(0, 0, -1, 1), x.minds(0, 0, 4, 0), x.minds(0, 0, 0, -1),
                x.minds(0, 0, 0, 9), x.minds(0, 0, 3, 2), x.minds(0, 0, 0, 5), x.minds(0, 0, MAX, 8), x.minds(0, 0, 0, MAX));
        due("36 missing", x.minds(1, 0, 0, 1), -11);
        due("36 BAD ahead of missing", x.minds(1, 0, 0, 9), BAD);
        for (int sort = 1; sort <= 3; sort++) {
            x.sheet(1, sort, 4);
            due("36 another sort", x.minds(1, 0, 0, 1), -13);
            due("36 another sort ahead of outside", x.minds(1, 9, 0, 1), -13);
        }
        due("36 refusals change nothing", x.of(0, 2), 8);
        x = told("cook at 0;cook at 0;cook at 0;cook at 0;cook at 0;cook at 0;cook at 0;cook at 0;");
        x.sheet(0, 0, 40);
        x.put(0, 39, 4);
        due("36 eight", x.minds(0, 32, 0, 8), 8);
        due("36 the eighth", x.of(7, 2), 4);
        due("36 nobody", new TwoMinutes().minds(0, 0, 0, 0), BAD);
    }

    private static void promise37to39() {
        TwoMinutes x = new TwoMinutes();
        int[] kept = {-56, 200, 200, 200};
        int[] wide = {57, 12345, -13574087, -13574087};
        for (int sort = 0; sort <= 3; sort++) {
            due("37", x.sheet(sort, sort, 40), 1);
            due("38", x.put(sort, 39, 200), 1);
            due("39", x.item(sort, sort, 39), kept[sort]);
            due("38", x.put(sort, 0, -13574087), 1);
            due("39", x.item(sort, sort, 0), sort == 0 ? (byte) -13574087 : sort == 1 ? (short) -13574087 : wide[sort]);
            due("39 all 0", x.item(sort, sort, 20), 0);
            for (int other = 0; other <= 3; other++) {
                if (other != sort) {
                    due("39 another sort", x.item(sort, other, 0), -13);
                    due("39 another sort ahead of outside", x.item(sort, other, 40), -13);
                }
            }
            all("38, 39 outside", -12, x.put(sort, 40, 1), x.put(sort, -1, 1), x.put(sort, MIN, 1), x.put(sort, MAX, 1),
                    x.item(sort, sort, 40), x.item(sort, sort, -1), x.item(sort, sort, MIN), x.item(sort, sort, MAX));
            due("39 as low as a refusal", x.put(sort, 3, -12), 1);
            due("39 as low as a refusal", x.item(sort, sort, 3), -12);
        }
        due("37 anew", x.sheet(0, 0, 40), 1);
        due("37 all 0", x.item(0, 0, 39), 0);
        due("37 all 0", x.item(0, 0, 0), 0);
        due("37 none", x.sheet(0, 2, 0), 1);
        due("39 none", x.item(0, 2, 0), -12);
        due("37 below 0", x.sheet(0, 1, -1), -14);
        due("37 below 0", x.sheet(0, 1, MIN), -14);
        due("37 refused: as it was", x.item(0, 2, 0), -12);
        all("37 BAD", BAD, x.sheet(-1, 0, 1), x.sheet(4, 0, 1), x.sheet(0, -2, 1), x.sheet(0, 4, 1), x.sheet(0, 0, 41), x.sheet(0, 0, MAX),
                x.sheet(4, 0, -1), x.sheet(0, 4, -1), x.sheet(MIN, -1, 0));
        due("37 missing; n counts nothing", x.sheet(0, -1, 41), 1);
        due("37 missing; n counts nothing", x.sheet(1, -1, -1), 1);
        all("missing", -11, x.item(0, 0, 0), x.item(1, 1, 0), x.put(0, 0, 1), x.put(1, 99, 1));
        all("38 BAD", BAD, x.put(-1, 0, 1), x.put(4, 0, 1), x.put(MIN, 0, 1), x.put(MAX, 0, 1));
        all("39 BAD", BAD, x.item(-1, 0, 0), x.item(4, 0, 0), x.item(2, -1, 0), x.item(2, 4, 0), x.item(0, 4, 0), x.item(MAX, 0, 0), x.item(0, MIN, 0));
    }

    private static void promise40and41() {
        TwoMinutes x = told("neighbour at 0;cook at 0;soldier at 0;baker at 0;officer at 0;mother at 0;");
        int[] under = {0b000001, 0b000011, 0b000101, 0b001011, 0b010101, 0b100001};
        for (int kind = 0; kind < 6; kind++) {
            due("40", x.shelf(kind % 4, 0, kind), 1);
            for (int as = 0; as < 6; as++) {
                due("41 KIND " + kind + " as " + as, x.taken(kind % 4, as), (under[kind] >> as & 1) == 1 ? kind : -13);
            }
            all("41 no row", -13, x.taken(kind % 4, 10), x.taken(kind % 4, 11), x.taken(kind % 4, 12), x.taken(kind % 4, 13));
        }
        all("40 BAD", BAD, x.shelf(-1, 0, 0), x.shelf(4, 0, 0), x.shelf(0, -1, 0), x.shelf(0, 3, 0), x.shelf(0, 0, -1), x.shelf(0, 0, 6),
                x.shelf(0, 1, -1), x.shelf(0, 1, 4), x.shelf(MIN, 2, 0), x.shelf(0, MAX, 0), x.shelf(0, 0, MAX));
        due("40 refused: as it was", x.taken(0, 4), 4);
        all("41 BAD", BAD, x.taken(-1, 0), x.taken(4, 0), x.taken(0, -1), x.taken(0, 6), x.taken(0, 9), x.taken(0, 14), x.taken(MAX, 0), x.taken(0, MIN));
        due("40 nothing; n counts nothing", x.shelf(0, 2, 99), 1);
        due("41 nothing", x.taken(0, 0), -11);
        due("41 nothing", x.taken(0, 13), -11);
        due("41 BAD ahead of nothing", x.taken(0, 6), BAD);
        due("40 a missing row", x.shelf(1, 1, 2), 1);
        due("41 a missing row", x.taken(1, 10), -11);
        x.sheet(2, 1, 7);
        due("41 it was missing then", x.taken(1, 11), -11);
        due("40 a row", x.shelf(1, 1, 2), 1);
        due("41 a row", x.taken(1, 11), 7);
        all("41 of another sort", -13, x.taken(1, 10), x.taken(1, 12), x.taken(1, 13), x.taken(1, 0), x.taken(1, 5));
        x.sheet(2, 3, 9);
        due("41 the row that it holds", x.taken(1, 11), 7);
        x.sheet(2, -1, 0);
        due("41 the row that it holds", x.taken(1, 11), 7);
        promise40Later();
    }

    /** One of PEOPLE is held by its number: the KIND counts as it is then, and there may be no such one for a while. */
    private static void promise40Later() {
        TwoMinutes x = told("cook at 0;");
        x.keep();
        x.person(2, 3, 0, 0);
        x.shelf(0, 0, 1);
        due("40 later", x.taken(0, 2), 1);
        x.mind(1, 3);
        due("40 of another KIND", x.taken(0, 2), -13);
        due("40 of another KIND", x.taken(0, 1), 1);
        x.again();
        due("40 nobody", x.taken(0, 1), -11);
        due("40 nobody", x.taken(0, 13), -11);
        due("42 nobody", x.act(0, 0, 1), 0);
        x.person(5, 3, 0, 0);
        due("40 another one", x.taken(0, 5), 1);
        due("42 another one", x.act(0, 0, 1), 7);
        x.town();
        due("40 nobody", x.taken(0, 0), -11);
    }

    private static void acts(TwoMinutes x, int who, int act, int arg, int answer, int... bodies) {
        String what = "42 act " + act + " of " + who;
        x.shelf(3, 0, who);
        due(what, x.act(3, act, arg), answer);
        due(what + ": how many bodies", x.many(6), bodies.length);
        for (int i = 0; i < bodies.length; i++) {
            due(what + ": body " + i, x.trace(i), bodies[i]);
        }
        all("43 NONE", NONE, x.trace(bodies.length), x.trace(-1), x.trace(30), x.trace(MIN), x.trace(MAX));
    }

    private static void promise42and43() {
        TwoMinutes x = told("neighbour at 0 beat 3;cook at 0 beat 4;soldier at 0 beat 5;baker at 0 beat 5;officer at 0 beat 9;mother at 0 beat 7;");
        due("43 none", x.trace(0), NONE);
        acts(x, 0, 0, 10, 60, 10);
        acts(x, 0, 1, 10, 57, 11, 10);
        acts(x, 0, 2, 10, 3, 12);
        acts(x, 0, 2, -10, -3, 12);
        acts(x, 0, 3, 10, 57 ^ 100, 13, 11, 10);
        acts(x, 1, 1, 10, 114, 20, 11, 10);
        acts(x, 1, 3, 10, 114 ^ 100, 13, 20, 11, 10);
        acts(x, 1, 0, 10, 61, 10);
        acts(x, 1, 2, 10, 3, 12);
        acts(x, 5, 0, 10, 65, 10);
        acts(x, 5, 1, 10, 58, 11, 10);
        acts(x, 2, 2, 10, 3, 12);
        acts(x, 2, 0, 10, -62, 30, 10);
        acts(x, 2, 1, 10, -67, 11, 30, 10);
        acts(x, 2, 3, 10, (-67 ^ 100) + 0, 31, 13, 11, 30, 10, 12);
        acts(x, 3, 0, 10, 68, 51, 10);
        acts(x, 3, 1, 10, 126, 20, 11, 51, 10);
        acts(x, 3, 2, 10, 28, 50, 12);
        acts(x, 3, 3, 10, 126 ^ 100, 13, 20, 11, 51, 10);
        acts(x, 4, 0, 10, -73, 40, 30, 10);
        // -(10 * 6 + 4) - 9 - 9 and -(9 * 6 + 4) - 9
        acts(x, 4, 1, 10, -82 ^ -67, 41, 11, 40, 30, 10, 40, 30, 10);
        acts(x, 4, 2, 10, 2, 12);
        acts(x, 4, 3, 10, (-82 ^ -67 ^ 100) + 0, 31, 13, 41, 11, 40, 30, 10, 40, 30, 10, 12);
        acts(x, 5, 2, 10, 5 * 35, 61, 12, 10);
        acts(x, 5, 3, 10, (58 ^ 100) - 1, 60, 13, 11, 10);
        // ints wrap
        acts(x, 0, 0, MAX, -6, 10);
        acts(x, 3, 2, MAX, 2147483643 / 2 + 3, 50, 12);
        x.change(3, 1, 2);
        acts(x, 3, 2, MIN, MIN + 3, 50, 12);
        promise42Refusals(x);
    }

    private static void promise42Refusals(TwoMinutes x) {
        // BEAT the same as the number: parted by 0, and nothing more runs
        x.change(5, 1, 5);
        acts(x, 5, 2, 10, -15, 61, 12);
        x.change(2, 1, 2);
        acts(x, 2, 2, 0, -15, 12);
        acts(x, 2, 3, 10, -15, 31, 13, 11, 30, 10, 12);
        acts(x, 2, 0, 10, -62, 30, 10);
        x.change(3, 1, 3);
        acts(x, 3, 2, 10, -15, 50, 12);
        int[][] none = {{-1, 0}, {4, 0}, {3, -1}, {3, 4}, {0, 0}, {1, 0}, {MIN, 0}, {MAX, 0}, {3, MIN}, {3, MAX}};
        x.sheet(0, 0, 3);
        x.shelf(1, 1, 0);
        for (int[] pair : none) {
            x.shelf(3, 0, 0);
            x.act(3, 0, 1);
            due("42", x.many(6), 1);
            due("42 no such thing", x.act(pair[0], pair[1], 1), 0);
            due("42 no TRACE then", x.many(6), 0);
            due("43 no TRACE then", x.trace(0), NONE);
        }
    }

    private static void promise44() {
        TwoMinutes x = told("neighbour at 0 beat 2;soldier at 2 beat 1;mother at 2;cook at 7 beat 4 phase 1;");
        due("44 PEOPLE", x.many(0), 4);
        due("44 those that SOUND", x.many(1), 2);
        due("44 CORNERS", x.many(2), 3);
        due("44 NOISE", x.many(3), 0);
        x.seconds(1);
        due("44 none SOUNDS", x.many(1), 0);
        due("44 the first one heard nothing", x.of(0, 4), 0);
        // the neighbour is heard AT 2, the soldier is not heard AT 0 but by the mother
        due("44 NOISE", x.many(3), 2);
        x.bring(0, 2);
        x.seconds(2);
        due("44 the first one's NOISE, too", x.many(3), 3);
        x.prove(0, 6);
        due("44 ROWS", x.many(4), 6);
        x.feed(0, 3);
        due("44 bytes", x.many(5), 3);
        x.shelf(0, 0, 3);
        x.act(0, 1, 1);
        due("44 bodies", x.many(6), 3);
        all("44 BAD", BAD, x.many(-1), x.many(7), x.many(MIN), x.many(MAX));
    }

    private static void promise45and46() {
        TwoMinutes x = told("neighbour at 1 beat 4 phase 3;neighbour at 2 beat 4 phase 3;goal 2;loud 5;watch 7;cough 9;");
        x.seconds(4);
        x.seed(99);
        due("45", x.keep(), 1);
        x.prove(0, 3);
        x.feed('g', 1);
        x.sheet(0, 0, 5);
        x.shelf(0, 1, 0);
        x.shelf(1, 0, 1);
        x.act(1, 0, 1);
        x.seconds(5);
        x.anew();
        x.seed(3);
        x.set(0, 50);
        x.set(1, 1);
        x.set(2, 1);
        x.set(3, 1);
        x.mind(0, 5);
        x.change(0, 1, 1);
        x.change(0, 2, 1);
        x.bring(0, 8);
        x.person(3, 1, 1, 1);
        for (int twice = 0; twice < 2; twice++) {
            due("46", x.again(), 2);
            due("46 SECOND", x.state(0), 4);
            due("46 RUN", x.state(1), 2);
            due("46 LONGEST", x.state(2), 2);
            due("46 DONE", x.state(3), 1);
            due("46 NOISE", x.of(0, 4), 1);
            due("46 KIND", x.of(0, 0), 0);
            due("46 BEAT", x.of(0, 1), 4);
            due("46 PHASE", x.of(0, 2), 3);
            due("46 AT", x.of(0, 3), 1);
            due("46 GOAL", x.lawOf(0), 2);
            due("46 LOUD", x.lawOf(1), 5);
            due("46 WATCH", x.lawOf(2), 7);
            due("46 COUGH", x.lawOf(3), 9);
            due("46 z", x.seed(4), 99);
            due("46 ROWS stay", x.many(4), 3);
            due("46 THE TAPE stays", x.many(5), 1);
            due("46 THE TRACE stays", x.many(6), 1);
            due("46 SHEETS stay", x.item(0, 0, 4), 0);
            due("46 SHELVES stay", x.taken(0, 10), 5);
            x.seconds(6);
            x.mind(0, 4);
            x.anew();
        }
        x.keep();
        x.seconds(1);
        due("46 the latest", x.again(), 2);
        due("46 the latest", x.state(0), 10);
        due("46 the latest", x.of(0, 0), 4);
    }

    public static void main(String[] args) {
        promise01();
        promise02();
        promise03();
        promise03Faults();
        promise04and05();
        promise06();
        promise07();
        promise08to10();
        promise11();
        promise12();
        promise13to15();
        promise16and17();
        promise18and19();
        promise20and21();
        promise22to24();
        promise25();
        promise26();
        promise27and28();
        promise29();
        promise30and31();
        promise32to34();
        promise35();
        promise36();
        promise37to39();
        promise40and41();
        promise42and43();
        promise44();
        promise45and46();
        System.out.println(wrong == 0 ? "every promise is kept" : wrong + " answers are not as due");
        if (wrong != 0) {
            System.exit(1);
        }
    }
}
