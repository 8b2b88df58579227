/** Promises 1 to 17 (the town as it is), sentence by sentence. */
public final class SentencesOfTownPromisesTest extends Sentences {
    public static void main(String[] args) throws Exception {
        runAll(SentencesOfTownPromisesTest.class);
    }

    private static void p01() {
        quote("Promise 1", "Nobody; nothing is kept.");
        TwoMinutes x = new TwoMinutes();
        due("nobody", x.many(0), 0);
        due("no such one", x.of(0, 0), BAD);
        due("nothing is kept", x.again(), NONE);
        for (int corner = 0; corner < 12; corner++) {
            all("nobody there", 0, x.corner(corner, 0), x.corner(corner, 1), x.heard(corner, 60));
        }
        for (int what = 0; what < 6; what++) {
            due("state", x.state(what), 0);
        }
        for (int what = 0; what < 7; what++) {
            due("many", x.many(what), 0);
        }
        // an object knows nothing of another one
        TwoMinutes other = full();
        due("nobody still", x.many(0), 0);
        due("nothing is kept still", x.again(), NONE);
        due("the other one is full", other.many(0), 8);
    }

    // ---- feed, town

    private static void p02() {
        quote("Promise 2", "n bytes (1 to 8) come to THE TAPE");
        range("n", 1, 8, BAD, n -> new TwoMinutes().feed(-1, n));
        TwoMinutes x = new TwoMinutes();
        int bytes = 0;
        for (int n = 1; n <= 8; n++) {
            bytes += n;
            due("feed " + n, x.feed(MIN, n), bytes);
            due("bytes of THE TAPE", x.many(5), bytes);
        }
    }

    private static void p02Lowest() {
        quote("Promise 2", "the lowest of eight first");
        TwoMinutes x = new TwoMinutes();
        // "loud 8; ", and a byte that is not to come
        x.feed(0x203b382064756f6cL, 8);
        due("town", x.town(), 0);
        due("LOUD", x.lawOf(LOUD), 8);
        x.feed(0xff3b382064756f6cL, 7);
        due("the eighth byte does not come", x.town(), 0);
        x.feed(0xff3b382064756f6cL, 8);
        due("the eighth byte comes", x.town(), -107);
    }

    private static void p02HowMany() {
        quote("Promise 2", "how many it has.");
        TwoMinutes x = new TwoMinutes();
        for (int i = 1; i <= 200; i++) {
            due("byte by byte", x.feed(' ', 1), i);
        }
        x.town();
        due("anew", x.feed(' ', 3), 3);
    }

    private static void p02Bad() {
        quote("Promise 2", "BAD");
        TwoMinutes x = new TwoMinutes();
        all("n", BAD, x.feed(32, 0), x.feed(32, 9), x.feed(32, -1), x.feed(32, MIN), x.feed(32, MAX));
        due("no byte came", x.many(5), 0);
    }

    private static void p02Full() {
        quote("Promise 2", "FULL: more than 200.");
        for (int n = 1; n <= 8; n++) {
            TwoMinutes x = new TwoMinutes();
            feed(x, blanks(201 - n));
            due("just more", x.feed(0x2020202020202020L, n), FULL);
            due("none of them came", x.many(5), 201 - n);
            x = new TwoMinutes();
            feed(x, blanks(200 - n));
            due("just 200", x.feed(0x2020202020202020L, n), 200);
            due("BAD ahead of FULL", x.feed(32, 9), BAD);
        }
    }

    private static void p03() {
        quote("Promise 3", "THE TAPE becomes all: how many PEOPLE");
        TwoMinutes x = full();
        due("without the bytes", x.town(), 1);
        feed(x, "cook at 1;cook at 2;");
        due("two", x.town(), 2);
        due("THE TAPE is empty: nobody", x.town(), 0);
        due("nobody", x.many(0), 0);
        feed(x, "cook at 0;cook at 1;cook at 2;cook at 3;cook at 4;cook at 5;cook at 6;cook at 7;");
        due("eight", x.town(), 8);
        x = full();
        x.town();
        due("a SHELF holds one by its number: it is nobody now", x.taken(0, 0), -11);
        changed("town", x, "state", "lawOf", "of(", "many(0)", "many(1)", "many(2)", "many(3)", "many(4)", "many(5)", "row(", "taken(0, ",
                "town()", "behind town()", "behind again(): many(4)");
    }

    private static void p03Fault() {
        quote("Promise 3", "-100 less its FAULT.");
        due("at 0", townOf("?"), -100);
        due("at 1", townOf(" ?"), -101);
        due("at the last byte", townOf(blanks(199) + "?"), -299);
        due("at the end", townOf(blanks(195) + "watch"), -300);
    }

    private static void p03Rows() {
        quote("Promise 3", "There are no ROWS then.");
        TwoMinutes x = full();
        due("ROWS", x.many(4), 9);
        x.town();
        due("no ROWS", x.many(4), 0);
        due("no ROW", x.row(0, 0), -9);
        due("no ROW", x.alterRow(0, 0, 1), -9);
        x.person(0, 1, 0, 0);
        due("none to be judged", x.judge(0), 0);
        x = full();
        x.feed(';', 1);
        due("refused", x.town(), -297);
        due("ROWS stay then", x.many(4), 9);
    }

    // ---- LAWS

    private static void p04() {
        quote("Promise 4", "A LAW becomes v: what it was.");
        int[] first = {12, 1, 6, 20};
        int[] most = {99, 9, 99, 99};
        for (int law = 0; law < 4; law++) {
            TwoMinutes x = new TwoMinutes();
            due("what it was", x.set(law, most[law]), first[law]);
            due("what it was", x.set(law, 1), most[law]);
            due("what it was", x.set(law, 1), 1);
            for (int other = 0; other < 4; other++) {
                due("LAW " + other, x.lawOf(other), other == law ? 1 : first[other]);
            }
        }
        TwoMinutes x = full();
        x.set(WATCH, 31);
        changed("set", x, "lawOf(2)", "state(5)", "many(1)");
    }

    private static void p04Bad() {
        quote("Promise 4", "BAD (GOAL 0, too).");
        due("GOAL 0", new TwoMinutes().set(GOAL, 0), BAD);
        range("law", 0, 3, BAD, law -> new TwoMinutes().set(law, 1));
        range("GOAL", 1, 99, BAD, v -> new TwoMinutes().set(GOAL, v));
        range("LOUD", 0, 9, BAD, v -> new TwoMinutes().set(LOUD, v));
        range("WATCH", 0, 99, BAD, v -> new TwoMinutes().set(WATCH, v));
        range("COUGH", 0, 99, BAD, v -> new TwoMinutes().set(COUGH, v));
        TwoMinutes x = new TwoMinutes();
        x.set(GOAL, 0);
        due("GOAL stays", x.lawOf(GOAL), 12);
    }

    private static void p05() {
        quote("Promise 5", "A LAW.");
        TwoMinutes x = told("goal 99;loud 9;watch 98;cough 97;");
        due("GOAL", x.lawOf(0), 99);
        due("LOUD", x.lawOf(1), 9);
        due("WATCH", x.lawOf(2), 98);
        due("COUGH", x.lawOf(3), 97);
        unchanged("lawOf", y -> y.lawOf(2));
    }

    private static void p05Bad() {
        quote("Promise 5", "BAD.");
        range("law", 0, 3, BAD, law -> new TwoMinutes().lawOf(law));
    }

    // ---- PEOPLE

    private static void p06() {
        quote("Promise 6", "One more, AT a CORNER: its number.");
        TwoMinutes x = new TwoMinutes();
        for (int i = 0; i < 8; i++) {
            due("its number", x.person(i % 6, 9 - i, i, 4 + i), i);
            due("how many", x.many(0), i + 1);
        }
        for (int i = 0; i < 8; i++) {
            due("KIND", x.of(i, 0), i % 6);
            due("BEAT", x.of(i, 1), 9 - i);
            due("PHASE", x.of(i, 2), i);
            due("AT", x.of(i, 3), 4 + i);
            due("NOISE", x.of(i, 4), 0);
        }
    }

    private static void p06Bad() {
        quote("Promise 6", "BAD");
        range("KIND", 0, 5, BAD, v -> new TwoMinutes().person(v, 1, 0, 0));
        range("BEAT", 1, 9, BAD, v -> new TwoMinutes().person(0, v, 0, 0));
        range("PHASE", 0, 8, BAD, v -> new TwoMinutes().person(0, 1, v, 0));
        range("CORNER", 0, 11, BAD, v -> new TwoMinutes().person(0, 1, 0, v));
        TwoMinutes x = new TwoMinutes();
        x.person(0, 0, 0, 0);
        due("nobody came", x.many(0), 0);
        due("the first one still", x.person(0, 1, 0, 0), 0);
    }

    private static void p06Full() {
        quote("Promise 6", "FULL.");
        TwoMinutes x = full();
        due("a ninth one", x.person(0, 1, 0, 0), FULL);
        all("BAD ahead of FULL", BAD, x.person(6, 1, 0, 0), x.person(0, 0, 0, 0), x.person(0, 1, 9, 0), x.person(0, 1, 0, 12));
        due("eight", x.many(0), 8);
        x.town();
        due("there is room again", x.person(0, 1, 0, 0), 1);
    }

    private static void p07() {
        quote("Promise 7", "Of one: what = 0 KIND, 1 BEAT, 2 PHASE, 3 AT, 4 NOISE, 5 1 if it SOUNDS in the SECOND that begins now, else 0, 6 REACHES.");
        TwoMinutes x = told("officer at 11 beat 7 phase 8;neighbour at 0 beat 3;");
        int[][] of = {{4, 7, 8, 11, 0, 0, 3}, {0, 3, 0, 0, 0, 1, 2}};
        for (int who = 0; who < 2; who++) {
            for (int what = 0; what < 7; what++) {
                due("of " + who + " what " + what, x.of(who, what), of[who][what]);
            }
        }
        x.seconds(3);
        due("NOISE of the one that heard it", x.of(0, 4), 1);
        due("NOISE of the other one", x.of(1, 4), 0);
        due("it SOUNDS in SECOND 3 again", x.of(1, 5), 1);
        x.seconds(1);
        due("not in SECOND 4", x.of(1, 5), 0);
        unchanged("of", y -> y.of(3, 5));
    }

    private static void p07Bad() {
        quote("Promise 7", "BAD.");
        TwoMinutes x = full();
        for (int what = 0; what < 7; what++) {
            int asked = what;
            range("one", 0, 7, BAD, v -> x.of(v, asked));
        }
        range("what", 0, 6, BAD, v -> x.of(7, v));
        due("nobody", new TwoMinutes().of(0, 0), BAD);
    }

    private static void p08() {
        quote("Promise 8", "One becomes one of another KIND: the KIND that it was.");
        TwoMinutes x = full();
        int was = 1;
        for (int kind = 5; kind >= 0; kind--) {
            due("what it was", x.mind(7, kind), was);
            due("what it is", x.of(7, 0), kind);
            was = kind;
        }
        due("the KIND that it is already", x.mind(7, 0), 0);
        x.mind(7, 5);
        changed("mind", x, "of(7, 0)", "state(5)", "many(1)");
    }

    private static void p08Bad() {
        quote("Promise 8", "BAD.");
        range("one", 0, 7, BAD, v -> full().mind(v, 0));
        range("KIND", 0, 5, BAD, v -> full().mind(7, v));
        due("nobody", new TwoMinutes().mind(0, 0), BAD);
    }

    private static void p09() {
        quote("Promise 9", "BEAT (what 1; 1 to 9), PHASE (2; 0 to 8) of one becomes v: what it was.");
        range("BEAT", 1, 9, BAD, v -> full().change(7, 1, v));
        range("PHASE", 0, 8, BAD, v -> full().change(7, 2, v));
        TwoMinutes x = full();
        due("BEAT was", x.change(7, 1, 1), 2);
        due("BEAT was", x.change(7, 1, 9), 1);
        due("BEAT was", x.change(7, 1, 9), 9);
        due("PHASE was", x.change(7, 2, 0), 7);
        due("PHASE was", x.change(7, 2, 8), 0);
        due("BEAT", x.of(7, 1), 9);
        due("PHASE", x.of(7, 2), 8);
        changed("change", x, "of(7, 1)", "of(7, 2)", "state(5)", "many(1)");
    }

    private static void p09Bad() {
        quote("Promise 9", "BAD.");
        range("one", 0, 7, BAD, v -> full().change(v, 1, 1));
        range("what", 1, 2, BAD, v -> full().change(0, v, 1));
        TwoMinutes x = one(0, 5, 4, 0);
        all("0 is no BEAT, 9 no PHASE", BAD, x.change(0, 1, 0), x.change(0, 2, 9), x.change(0, 1, 10), x.change(0, 2, -1));
        due("BEAT stays", x.of(0, 1), 5);
        due("PHASE stays", x.of(0, 2), 4);
        due("nobody", new TwoMinutes().change(0, 1, 1), BAD);
    }

    private static void p10() {
        quote("Promise 10", "It is AT a CORNER from now on: AT which it was.");
        TwoMinutes x = full();
        due("AT which it was", x.bring(7, 11), 4);
        due("AT which it was", x.bring(7, 0), 11);
        due("the same CORNER", x.bring(7, 0), 0);
        due("AT", x.of(7, 3), 0);
        changed("bring", x, "of(7, 3)", "many(2)");
        x = told("neighbour at 0 beat 1;cook at 3;");
        x.seconds(1);
        due("out of reach", x.of(1, 4), 0);
        x.bring(1, 10);
        x.seconds(1);
        due("in reach from now on", x.of(1, 4), 1);
    }

    private static void p10Bad() {
        quote("Promise 10", "BAD.");
        range("one", 0, 7, BAD, v -> full().bring(v, 0));
        range("CORNER", 0, 11, BAD, v -> full().bring(7, v));
        due("nobody", new TwoMinutes().bring(0, 0), BAD);
    }

    private static void p11() {
        quote("Promise 11", "Of a CORNER: what = 0 those AT it, as a set, 1 those that SOUND in the SECOND that begins now and are heard there, as a set.");
        TwoMinutes x = told("neighbour at 0 beat 1;neighbour at 1 beat 9 phase 1;soldier at 1;cook at 11 beat 1;");
        int[] at = {1, 6, 0, 0, 0, 0, 0, 0, 0, 0, 0, 8};
        int[] heard = {5, 5, 5, 0, 0, 0, 0, 0, 0, 0, 1, 1};
        for (int corner = 0; corner < 12; corner++) {
            due("AT " + corner, x.corner(corner, 0), at[corner]);
            due("heard AT " + corner, x.corner(corner, 1), heard[corner]);
        }
        x.seconds(8);
        // SECOND 8: the second one SOUNDS, the soldier does not
        due("heard AT 3 in the SECOND that begins now", x.corner(3, 1), 2);
        due("heard AT 11 in the SECOND that begins now", x.corner(11, 1), 3);
        unchanged("corner", y -> y.corner(11, 1));
    }

    private static void p11Bad() {
        quote("Promise 11", "BAD.");
        TwoMinutes x = full();
        range("CORNER", 0, 11, BAD, v -> x.corner(v, 0));
        range("CORNER", 0, 11, BAD, v -> x.corner(v, 1));
        range("what", 0, 1, BAD, v -> x.corner(11, v));
    }

    // ---- SECONDS

    private static void p12() {
        quote("Promise 12", "n SECONDS (1 to 60): RUN then.");
        for (int n = 1; n <= 60; n++) {
            TwoMinutes x = one(NEIGHBOUR, 9, 0, 0);
            due("RUN behind " + n, x.seconds(n), (n + 8) % 9);
            due("SECOND", x.state(0), n);
            due("RUN", x.state(1), (n + 8) % 9);
        }
        TwoMinutes x = new TwoMinutes();
        due("from where it is", x.seconds(60), 60);
        due("from where it is", x.seconds(1), 61);
    }

    private static void p12Bad() {
        quote("Promise 12", "BAD.");
        range("n", 1, 60, BAD, v -> new TwoMinutes().seconds(v));
        TwoMinutes x = new TwoMinutes();
        all("n", BAD, x.seconds(0), x.seconds(61));
        due("no SECOND", x.state(0), 0);
    }

    private static void p13() {
        quote("Promise 13", "z becomes v: what it was.");
        TwoMinutes x = new TwoMinutes();
        int[] any = {1, 0, -1, MIN, MAX, 77, -77};
        int was = 1;
        for (int v : any) {
            due("what it was", x.seed(v), was);
            was = v;
        }
        x = full();
        due("what it was", x.seed(MIN), -77);
        changed("seed", x, "z", "behind town(): z");
    }

    private static void p14() {
        quote("Promise 14", "A SECOND BY DRAWS: RUN then.");
        TwoMinutes x = told("neighbour at 0 beat 9 phase 1;cough 0;");
        for (int second = 1; second <= 8; second++) {
            due("RUN", x.second(), second);
            due("RUN", x.state(1), second);
            due("SECOND", x.state(0), second);
        }
        due("it SOUNDS in SECOND 8", x.second(), 0);
        x.set(COUGH, 99);
        x.seed(1);
        due("it coughs", x.second(), 0);
        due("nobody", new TwoMinutes().second(), 1);
    }

    private static void p15() {
        quote("Promise 15", "SPOILT (n 1 to 30).");
        TwoMinutes x = told("neighbour at 0 beat 9 phase 1;cough 50;");
        int z = 1;
        int coughs = 0;
        for (int n = 1; n <= 30; n++) {
            z = z * 1103515245 + 12345;
            z = z * 1103515245 + 12345;
            coughs += (z >>> 16) % 100 < 50 ? 1 : 0;
            due("by " + n, x.spoilt(n), coughs);
        }
        due("z", x.seed(1), 1);
    }

    private static void p15Bad() {
        quote("Promise 15", "BAD.");
        range("n", 1, 30, BAD, v -> full().spoilt(v));
        range("n, with nobody", 1, 30, BAD, v -> new TwoMinutes().spoilt(v));
    }

    private static void p16() {
        quote("Promise 16", "What = 0 SECOND, 1 RUN, 2 LONGEST, 3 DONE, 4 NOISE of all together, 5 those that SOUND in the SECOND that begins now, as a set.");
        TwoMinutes x = told("neighbour at 0 beat 5;neighbour at 1 beat 5 phase 1;mother at 9;goal 3;");
        int[][] states = {{0, 0, 0, 0, 0, 1}, {1, 0, 0, 0, 1, 0}, {2, 1, 1, 0, 1, 0}, {3, 2, 2, 0, 1, 0}, {4, 3, 3, 1, 1, 2}, {5, 0, 3, 1, 2, 1}};
        for (int[] due : states) {
            for (int what = 0; what < 6; what++) {
                due("state(" + what + ") in SECOND " + due[0], x.state(what), due[what]);
            }
            x.seconds(1);
        }
        unchanged("state", y -> y.state(5));
    }

    private static void p16Bad() {
        quote("Promise 16", "BAD.");
        TwoMinutes x = full();
        range("what", 0, 5, BAD, v -> x.state(v));
    }

    private static void p17() {
        quote("Promise 17", "RUN, LONGEST, DONE become 0, NOISE of all, too (SECOND stays): what RUN was.");
        TwoMinutes x = told("neighbour at 0 beat 5;neighbour at 1 beat 5;mother at 1;goal 3;");
        x.seconds(10);
        due("RUN", x.state(1), 4);
        due("LONGEST", x.state(2), 4);
        due("DONE", x.state(3), 1);
        all("NOISE", 2, x.of(0, 4), x.of(1, 4));
        due("NOISE", x.of(2, 4), 4);
        x.change(0, 1, 9);
        x.change(0, 2, 8);
        x.seconds(2);
        due("RUN, less than LONGEST", x.state(1), 1);
        x.seconds(1);
        due("what RUN was", x.anew(), 2);
        all("RUN, LONGEST, DONE, NOISE", 0, x.state(1), x.state(2), x.state(3), x.state(4), x.of(0, 4), x.of(1, 4), x.of(2, 4));
        due("SECOND stays", x.state(0), 13);
        due("what RUN was", x.anew(), 0);
        due("PEOPLE stay", x.many(0), 3);
        due("nobody", new TwoMinutes().anew(), 0);
        TwoMinutes y = full();
        y.anew();
        StringBuilder changing = new StringBuilder("state(1);state(2);state(3);state(4);state(5);many(1);many(3)");
        for (int i = 0; i < 8; i++) {
            changing.append(";of(").append(i).append(", 4)");
        }
        changed("anew", y, changing.toString().split(";"));
        x = told("goal 2;");
        x.seconds(2);
        x.anew();
        x.seconds(1);
        due("not DONE", x.state(3), 0);
        x.seconds(1);
        due("DONE", x.state(3), 1);
    }
}
