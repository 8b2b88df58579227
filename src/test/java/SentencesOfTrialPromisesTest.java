/** Promises 18 to 31 (what is asked and TRIED, odds), sentence by sentence. */
public final class SentencesOfTrialPromisesTest extends Sentences {
    public static void main(String[] args) throws Exception {
        runAll(SentencesOfTrialPromisesTest.class);
    }

    private static void p18() {
        quote("Promise 18", "LASTS by n (0 to 60).");
        TwoMinutes x = one(NEIGHBOUR, 9, 0, 0);
        x.seconds(5);
        for (int n = 0; n <= 60; n++) {
            due("by " + n, x.lasts(n), (n + 5 + 8) % 9);
        }
        due("nobody, by 0", new TwoMinutes().lasts(0), 0);
        due("nobody, by 60", new TwoMinutes().lasts(60), 60);
    }

    private static void p18Bad() {
        quote("Promise 18", "BAD.");
        range("n", 0, 60, BAD, v -> full().lasts(v));
    }

    private static void p19() {
        quote("Promise 19", "LENGTH by n (1 to 60).");
        TwoMinutes x = one(NEIGHBOUR, 9, 0, 0);
        for (int n = 1; n <= 60; n++) {
            due("by " + n, x.length(n), Math.min(8, n - 1));
        }
        due("nobody, by 1", new TwoMinutes().length(1), 1);
        due("nobody, by 60", new TwoMinutes().length(60), 60);
    }

    private static void p19Bad() {
        quote("Promise 19", "BAD.");
        range("n", 1, 60, BAD, v -> full().length(v));
    }

    private static void p20() {
        quote("Promise 20", "KEPT.");
        for (int goal = 1; goal <= 60; goal++) {
            due("nobody, GOAL " + goal, told("goal " + goal + ";").kept(), goal);
        }
        TwoMinutes x = told("goal 8;neighbour at 0 beat 9;");
        due("RUN is 8 ahead of SECOND 9", x.kept(), 9);
        x.seconds(8);
        due("one more", x.kept(), 1);
        x.seconds(1);
        due("DONE already", x.kept(), 0);
    }

    private static void p20None() {
        quote("Promise 20", "NONE: not by then.");
        for (int goal = 61; goal <= 99; goal++) {
            due("nobody, GOAL " + goal, told("goal " + goal + ";").kept(), NONE);
        }
        due("RUN is 8 at most", told("goal 9;neighbour at 0 beat 9;").kept(), NONE);
        TwoMinutes x = told("goal 99;");
        x.seconds(38);
        due("one short", x.kept(), NONE);
        x.seconds(1);
        due("just by then", x.kept(), 60);
    }

    private static void p21() {
        quote("Promise 21", "BROKEN (what 0), BREAKER (1).");
        TwoMinutes x = told("mother at 0;neighbour at 2 beat 9;neighbour at 1 beat 9;watch 20;");
        due("BROKEN", x.broken(0), 1);
        due("BREAKER", x.broken(1), 1);
        x.seconds(1);
        due("BROKEN", x.broken(0), 9);
        x.change(1, 2, 1);
        due("BROKEN", x.broken(0), 8);
        due("BREAKER", x.broken(1), 1);
        x.change(2, 2, 2);
        due("BROKEN", x.broken(0), 7);
        due("BREAKER", x.broken(1), 2);
    }

    private static void p21Bad() {
        quote("Promise 21", "BAD");
        TwoMinutes x = full();
        range("what", 0, 1, BAD, v -> x.broken(v));
        all("nobody", BAD, new TwoMinutes().broken(-1), new TwoMinutes().broken(2));
    }

    private static void p21None() {
        quote("Promise 21", "NONE: not by then.");
        for (int what = 0; what < 2; what++) {
            due("nobody", new TwoMinutes().broken(what), NONE);
            TwoMinutes x = told("mother at 0;watch 60;");
            due("in the 61st SECOND", x.broken(what), NONE);
            x.seconds(1);
            due("in the 60th SECOND", x.broken(what), what == 0 ? 60 : 0);
        }
    }

    // ---- what is quiet longest

    private static void p22() {
        quote("Promise 22", "PHASE FOR one, n (1 to 60).");
        TwoMinutes x = told("neighbour at 0 beat 6;neighbour at 0 beat 6 phase 1;");
        due("by 1: 1 to 5, 7, 8 are as good", x.phaseFor(0, 1), 1);
        due("by 20: with the other one", x.phaseFor(0, 20), 1);
        due("by 60: with the other one", x.phaseFor(0, 60), 1);
        due("of the other one", x.phaseFor(1, 60), 0);
        for (int phase = 0; phase < 6; phase++) {
            x.change(1, 2, phase);
            due("with PHASE " + phase + " of the other one", x.phaseFor(0, 60), phase);
        }
    }

    private static void p22Bad() {
        quote("Promise 22", "BAD.");
        range("one", 0, 7, BAD, v -> full().phaseFor(v, 1));
        range("n", 1, 60, BAD, v -> full().phaseFor(7, v));
        due("nobody", new TwoMinutes().phaseFor(0, 1), BAD);
    }

    private static void p23() {
        quote("Promise 23", "BEAT FOR one, n (1 to 60).");
        TwoMinutes x = told("neighbour at 0 beat 6;neighbour at 0 beat 6 phase 1;");
        // the first one SOUNDS in SECOND 0; behind it the second one is to be quiet up to 5: 7, 8, 9 are
        due("by 6", x.beatFor(1, 6), 7);
        due("by 1: never quiet", x.beatFor(1, 1), 1);
        due("by 60 one alone", one(NEIGHBOUR, 1, 0, 0).beatFor(0, 60), 9);
        due("by 60 one alone", one(NEIGHBOUR, 1, 8, 0).beatFor(0, 60), 9);
    }

    private static void p23Bad() {
        quote("Promise 23", "BAD.");
        range("one", 0, 7, BAD, v -> full().beatFor(v, 1));
        range("n", 1, 60, BAD, v -> full().beatFor(7, v));
        due("nobody", new TwoMinutes().beatFor(0, 1), BAD);
    }

    private static void p24() {
        quote("Promise 24", "KIND FOR one, n (1 to 60).");
        TwoMinutes x = one(NEIGHBOUR, 2, 0, 0);
        due("by 1: cook and mother are as good", x.kindFor(0, 1), COOK);
        x.set(LOUD, 0);
        due("by 1: mother alone is", x.kindFor(0, 1), MOTHER);
        due("by 60: mother alone is", x.kindFor(0, 60), MOTHER);
        x.set(WATCH, 0);
        due("by 1: all SOUND", x.kindFor(0, 1), NEIGHBOUR);
        due("as a soldier it is quiet in odd SECONDS", one(NEIGHBOUR, 1, 0, 0).kindFor(0, 60), MOTHER);
        x = one(NEIGHBOUR, 1, 0, 0);
        x.set(WATCH, 0);
        x.set(LOUD, 0);
        due("soldier and officer are as good", x.kindFor(0, 60), SOLDIER);
    }

    private static void p24Bad() {
        quote("Promise 24", "BAD.");
        range("one", 0, 7, BAD, v -> full().kindFor(v, 1));
        range("n", 1, 60, BAD, v -> full().kindFor(7, v));
        due("nobody", new TwoMinutes().kindFor(0, 1), BAD);
    }

    private static void p25() {
        quote("Promise 25", "PAIR FOR two, n (1 to 30): ten times the first PHASE, and the second one.");
        TwoMinutes x = told("neighbour at 0 beat 9;neighbour at 0 beat 9 phase 3;neighbour at 0 beat 9 phase 4;");
        due("both with the third one", x.pairFor(0, 1, 30), 44);
        x = from(2);
        x.person(NEIGHBOUR, 8, 0, 0);
        x.person(NEIGHBOUR, 9, 0, 0);
        due("6 and 7", x.pairFor(0, 1, 8), 67);
        due("0 and 7", x.pairFor(1, 0, 8), 7);
        x = told("soldier at 0 beat 2;soldier at 0 beat 3;");
        due("by 1: neither in SECOND 0", x.pairFor(0, 1, 1), 11);
    }

    private static void p25Bad() {
        quote("Promise 25", "BAD: also one and the same.");
        range("one", 0, 6, BAD, v -> full().pairFor(v, 7, 1));
        all("one and the same, none", BAD, full().pairFor(7, 7, 1), full().pairFor(8, 7, 1));
        range("the other one", 1, 7, BAD, v -> full().pairFor(0, v, 1));
        range("n", 1, 30, BAD, v -> full().pairFor(6, 7, v));
        TwoMinutes x = full();
        for (int i = 0; i < 8; i++) {
            due("one and the same", x.pairFor(i, i, 1), BAD);
        }
        all("neither is there", BAD, x.pairFor(8, 8, 1), x.pairFor(-1, -1, 1), x.pairFor(8, 9, 1), new TwoMinutes().pairFor(0, 1, 1));
        all("the other one is not there", BAD, x.pairFor(0, 8, 1), x.pairFor(0, MAX, 1), x.pairFor(0, MIN, 1));
    }

    private static void p26() {
        quote("Promise 26", "AWAY FOR n (1 to 30), v (0 to 99).");
        TwoMinutes x = told("neighbour at 0 beat 1;mother at 0;watch 4;");
        due("by 1 to 0", x.awayFor(1, 0), 0);
        due("by 1 to 1", x.awayFor(1, 1), 1);
        due("by 30 to 4", x.awayFor(30, 4), 1);
        due("by 30 to 5", x.awayFor(30, 5), 3);
        due("by 30 to 30", x.awayFor(30, 30), 3);
        x = new TwoMinutes();
        x.seconds(60);
        x.seconds(38);
        x.person(NEIGHBOUR, 1, 0, 0);
        due("by 1 to 99", x.awayFor(1, 99), 1);
        due("by 30 to 99", x.awayFor(30, 99), 1);
    }

    private static void p26Bad() {
        quote("Promise 26", "BAD");
        TwoMinutes x = full();
        range("n", 1, 30, BAD, v -> x.awayFor(v, 0));
        TwoMinutes y = new TwoMinutes();
        y.seconds(60);
        y.seconds(60);
        range("v", 0, 99, BAD, v -> y.awayFor(1, v));
        all("BAD ahead of NONE", BAD, x.awayFor(0, 99), x.awayFor(1, 100));
    }

    private static void p26None() {
        quote("Promise 26", "NONE: by no set.");
        TwoMinutes x = new TwoMinutes();
        for (int n = 1; n <= 30; n++) {
            due("just so long", x.awayFor(n, n), 0);
            due("longer than there are SECONDS", x.awayFor(n, n + 1), NONE);
        }
        x = full();
        due("all away, even so", x.awayFor(1, 99), NONE);
    }

    // ---- what is heard where

    private static void p27() {
        quote("Promise 27", "HEARD AT a CORNER by n (1 to 60).");
        TwoMinutes x = told("neighbour at 11 beat 3;");
        for (int n = 1; n <= 60; n++) {
            due("AT 0 by " + n, x.heard(0, n), (n + 2) / 3);
            due("AT 11 by " + n, x.heard(11, n), (n + 2) / 3);
            due("AT 2 by " + n, x.heard(2, n), 0);
        }
    }

    private static void p27Bad() {
        quote("Promise 27", "BAD.");
        TwoMinutes x = full();
        range("CORNER", 0, 11, BAD, v -> x.heard(v, 1));
        range("n", 1, 60, BAD, v -> x.heard(11, v));
    }

    private static void p28() {
        quote("Promise 28", "CALM by n (1 to 60).");
        TwoMinutes x = told("neighbour at 2 beat 1;neighbour at 7 beat 1;neighbour at 10 beat 2 phase 1;");
        due("by 1: 10 and 11 are as calm", x.calm(1), 10);
        // SECOND 1: the third one is heard AT 8 to 0; 10 and 11 have one SECOND, the others all
        due("by 2", x.calm(2), 10);
        due("by 60", x.calm(60), 10);
        due("nobody", new TwoMinutes().calm(1), 0);
        // 0 to 10 are loud always; AT 11 only SECOND 22 is quiet
        x = told("baker at 4 beat 1;baker at 6 beat 1;loud 0;");
        x.person(NEIGHBOUR, 2, 1, 11);
        x.person(NEIGHBOUR, 4, 0, 11);
        x.person(NEIGHBOUR, 8, 6, 11);
        x.person(NEIGHBOUR, 3, 0, 11);
        x.person(NEIGHBOUR, 3, 1, 11);
        x.person(NEIGHBOUR, 9, 8, 11);
        due("heard by 60", x.heard(11, 60), 59);
        due("by 60: quiet once", x.calm(60), 11);
        due("by 23: quiet once", x.calm(23), 11);
        due("by 22: loud everywhere", x.calm(22), 0);
        x.change(7, 1, 1);
        due("by 60: loud everywhere", x.calm(60), 0);
    }

    private static void p28Bad() {
        quote("Promise 28", "BAD.");
        TwoMinutes x = full();
        range("n", 1, 60, BAD, v -> x.calm(v));
    }

    private static void p29() {
        quote("Promise 29", "FITS: what = 0 how many PHASES, 1 the least.");
        TwoMinutes x = one(NEIGHBOUR, 4, 1, 0);
        x.sheet(3, 0, 1);
        due("0: PHASES 0, 4, 8", x.fits(3, 0, 0), 3);
        due("0: PHASES 0, 4, 8", x.fits(3, 0, 1), 0);
        x.put(3, 0, 1);
        due("1: the others", x.fits(3, 0, 0), 6);
        due("1: the others", x.fits(3, 0, 1), 1);
        x.change(0, 1, 9);
        x.sheet(3, 1, 2);
        x.put(3, 0, 1);
        due("1, 0: PHASE 8", x.fits(3, 0, 0), 1);
        due("1, 0: PHASE 8", x.fits(3, 0, 1), 8);
        unchanged("fits", y -> y.fits(0, 7, 0));
    }

    private static void p29Bad() {
        quote("Promise 29", "BAD: no such SHEET, one, what");
        TwoMinutes x = full();
        for (int sheet = 0; sheet < 3; sheet++) {
            x.sheet(sheet, 0, 0);
        }
        x.sheet(3, 0, 0);
        range("SHEET", 0, 3, BAD, v -> x.fits(v, 0, 0));
        range("one", 0, 7, BAD, v -> x.fits(0, v, 0));
        range("what", 0, 1, BAD, v -> x.fits(0, 7, v));
        due("nobody", new TwoMinutes().fits(0, 0, 0), BAD);
        x.sheet(2, -1, 0);
        all("BAD ahead of -11", BAD, x.fits(2, 8, 0), x.fits(2, -1, 0), x.fits(2, 0, 2), x.fits(2, 0, -1));
    }

    private static void p29Nothing() {
        quote("Promise 29", "-11");
        TwoMinutes x = full();
        all("missing", -11, x.fits(3, 0, 0), x.fits(3, 7, 1));
        x.sheet(3, 2, 0);
        due("not missing", x.fits(3, 0, 0), 9);
        x.sheet(3, -1, 0);
        due("missing again", x.fits(3, 0, 0), -11);
    }

    private static void p29None() {
        quote("Promise 29", "NONE (what 1): none.");
        TwoMinutes x = one(NEIGHBOUR, 4, 1, 0);
        x.sheet(0, 3, 1);
        x.put(0, 0, 2);
        due("the least of none", x.fits(0, 0, 1), NONE);
        due("how many: not refused", x.fits(0, 0, 0), 0);
    }

    // ---- odds

    private static void p30() {
        quote("Promise 30", "ODDS by n (0 to 8), k (0 to n): a part of them.");
        TwoMinutes x = new TwoMinutes();
        // 1 in 5: (4 + 1)^n by 5^n
        long below = 1;
        for (int n = 0; n <= 8; n++) {
            long sum = 0;
            long choose = 1;
            for (int k = 0; k <= n; k++) {
                long above = choose;
                for (int i = k; i < n; i++) {
                    above *= 4;
                }
                long divisor = 1;
                while (above / divisor % 5 == 0 && below / divisor % 5 == 0) {
                    divisor *= 5;
                }
                due("of " + n + " just " + k + ", above", x.odds(n, k, 0), above / divisor);
                due("of " + n + " just " + k + ", below", x.odds(n, k, 1), below / divisor);
                sum += x.odds(n, k, 0) * (below / x.odds(n, k, 1));
                choose = choose * (n - k) / (k + 1);
            }
            due("all together", sum, below);
            below *= 5;
        }
    }

    private static void p30Bad() {
        quote("Promise 30", "BAD.");
        TwoMinutes x = new TwoMinutes();
        range("n", 0, 8, BAD, v -> x.odds(v, 0, 0));
        for (int n = 0; n <= 8; n++) {
            int evenings = n;
            range("k", 0, n, BAD, v -> x.odds(evenings, v, 0));
        }
        range("part", 0, 1, BAD, v -> x.odds(8, 8, v));
        all("n and k alike", BAD, x.odds(9, 9, 0), x.odds(-1, -1, 0), x.odds(MAX, MAX, 0), x.odds(MIN, MIN, 0));
    }

    private static void p31() {
        quote("Promise 31", "HOPE by n (0 to 99): a part of it.");
        TwoMinutes x = new TwoMinutes();
        for (int n = 0; n <= 99; n++) {
            due("of " + n + ", above", x.hope(n, 0), n % 5 == 0 ? n / 5 : n);
            due("of " + n + ", below", x.hope(n, 1), n % 5 == 0 ? 1 : 5);
        }
    }

    private static void p31Bad() {
        quote("Promise 31", "BAD.");
        TwoMinutes x = new TwoMinutes();
        range("n", 0, 99, BAD, v -> x.hope(v, 0));
        range("part", 0, 1, BAD, v -> x.hope(99, v));
    }
}
