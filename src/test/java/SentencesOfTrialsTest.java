/** Terms 2 up to SPOILT (what is TRIED, odds, draws), sentence by sentence. */
public final class SentencesOfTrialsTest extends Sentences {
    public static void main(String[] args) throws Exception {
        runAll(SentencesOfTrialsTest.class);
    }

    private static void nothingChanges() {
        quote("Terms 2", "What is asked here is TRIED; nothing changes.");
        for (int n = 1; n <= 60; n += 59) {
            int seconds = n;
            unchanged("lasts", x -> x.lasts(seconds));
            unchanged("length", x -> x.length(seconds));
            unchanged("phaseFor", x -> x.phaseFor(3, seconds));
            unchanged("beatFor", x -> x.beatFor(3, seconds));
            unchanged("kindFor", x -> x.kindFor(3, seconds));
            unchanged("heard", x -> x.heard(3, seconds));
            unchanged("calm", x -> x.calm(seconds));
        }
        for (int n = 1; n <= 30; n += 29) {
            int seconds = n;
            unchanged("pairFor", x -> x.pairFor(3, 7, seconds));
            unchanged("awayFor", x -> x.awayFor(seconds, 1));
            unchanged("awayFor", x -> x.awayFor(seconds, 99));
            unchanged("spoilt", x -> x.spoilt(seconds));
        }
        unchanged("lasts", x -> x.lasts(0));
        unchanged("kept", x -> x.kept());
        unchanged("broken", x -> x.broken(0));
        unchanged("broken", x -> x.broken(1));
        unchanged("fits", x -> x.fits(0, 3, 0));
        unchanged("fits", x -> x.fits(2, 3, 1));
        unchanged("odds", x -> x.odds(8, 4, 0));
        unchanged("hope", x -> x.hope(99, 1));
    }

    private static void lasts() {
        quote("Terms 2", "LASTS by n: RUN behind n SECONDS.");
        // SOUNDS in SECONDS 3, 7, 11, ..; it is SECOND 1 now, and RUN is 1
        TwoMinutes x = one(NEIGHBOUR, 4, 1, 0);
        x.seconds(1);
        int[] run = {1, 2, 3, 0, 1, 2, 3, 0, 1};
        for (int n = 0; n < run.length; n++) {
            due("LASTS by " + n, x.lasts(n), run[n]);
        }
        due("LASTS by 58", x.lasts(58), 3);
        due("LASTS by 59", x.lasts(59), 0);
        due("LASTS by 60", x.lasts(60), 1);
    }

    private static void length() {
        quote("Terms 2", "LENGTH by n: the greatest RUN behind 1 to n SECONDS.");
        TwoMinutes x = one(NEIGHBOUR, 4, 1, 0);
        x.seconds(3);
        // RUN is 3 now, but behind 0 SECONDS: that counts nothing
        int[] length = {0, 1, 2, 3, 3, 3, 3, 3, 3};
        for (int n = 1; n <= length.length; n++) {
            due("LENGTH by " + n, x.length(n), length[n - 1]);
        }
        due("LENGTH by 60", x.length(60), 3);
        x = new TwoMinutes();
        x.seconds(7);
        due("RUN goes on", x.length(1), 8);
        due("RUN goes on", x.length(60), 67);
    }

    private static void kept() {
        quote("Terms 2", "KEPT: behind the fewest SECONDS (0 to 60) DONE is 1 first.");
        TwoMinutes x = told("goal 60;");
        due("behind 60", x.kept(), 60);
        x.set(GOAL, 61);
        due("behind 61: not by then", x.kept(), NONE);
        x.set(GOAL, 1);
        due("behind 1", x.kept(), 1);
        x.seconds(9);
        due("behind 0", x.kept(), 0);
        x.set(GOAL, 99);
        x.person(NEIGHBOUR, 1, 0, 0);
        x.seconds(1);
        due("behind 0, whatever SOUNDS since", x.kept(), 0);
        x.anew();
        due("never", x.kept(), NONE);
        x = new TwoMinutes();
        x.seconds(9);
        x.set(GOAL, 5);
        due("RUN is more than GOAL, but DONE is 0 still", x.kept(), 1);
        x = told("goal 3;neighbour at 0 beat 4;");
        // SOUNDS in SECONDS 0, 4, 8: RUN is 3 behind 4 SECONDS, and behind 8
        due("the first time", x.kept(), 4);
    }

    private static void broken() {
        quote("Terms 2", "BROKEN: behind the fewest (1 to 60) RUN is 0 first");
        TwoMinutes x = new TwoMinutes();
        due("RUN is 0 now, but that is behind 0", x.broken(0), NONE);
        x = told("mother at 0;watch 59;");
        due("behind 60", x.broken(0), 60);
        x.set(WATCH, 60);
        due("behind 61: not by then", x.broken(0), NONE);
        x.set(WATCH, 0);
        due("behind 1", x.broken(0), 1);
        x.set(WATCH, 2);
        due("the first time", x.broken(0), 3);
    }

    private static void breaker() {
        quote("Terms 2", "BREAKER: the least one that SOUNDS in that SECOND.");
        TwoMinutes x = told("mother at 0;neighbour at 0 beat 4 phase 1;neighbour at 0 beat 4 phase 1;watch 3;");
        due("the least of three", x.broken(1), 0);
        x.set(WATCH, 4);
        due("the least of two", x.broken(1), 1);
        x.change(1, 2, 0);
        due("in that SECOND alone", x.broken(1), 1);
        x.seconds(1);
        due("in that SECOND alone", x.broken(1), 2);
        x = new TwoMinutes();
        for (int i = 0; i < 8; i++) {
            x.person(NEIGHBOUR, 9, i == 7 ? 0 : 1, 0);
        }
        due("the last one", x.broken(1), 7);
        due("nobody", new TwoMinutes().broken(1), NONE);
    }

    // ---- what is quiet longest

    private static void phaseFor() {
        quote("Terms 2", "PHASE FOR one, n: the PHASE with which LENGTH by n is greatest; of several the least.");
        // BEAT 9: with PHASE 0 it SOUNDS at 0 and 9, with 1 at 8, with 2 at 7, ..
        TwoMinutes x = one(NEIGHBOUR, 9, 4, 0);
        due("1 to 8 are as good", x.phaseFor(0, 1), 1);
        due("1 alone is", x.phaseFor(0, 8), 1);
        due("0 and 1 are as good", x.phaseFor(0, 9), 0);
        x = from(2);
        x.person(NEIGHBOUR, 9, 4, 0);
        due("with 8 it SOUNDS at 1 and 10", x.phaseFor(0, 8), 8);
        due("all are as good", one(MOTHER, 9, 4, 0).phaseFor(0, 60), 0);
        due("never quiet", one(NEIGHBOUR, 1, 4, 0).phaseFor(0, 60), 0);
    }

    private static void beatFor() {
        quote("Terms 2", "BEAT FOR one, n: the BEAT with which it is; of several the least.");
        TwoMinutes x = from(1);
        x.person(NEIGHBOUR, 4, 0, 0);
        due("9 alone is", x.beatFor(0, 8), 9);
        due("2 to 9 are as good", x.beatFor(0, 1), 2);
        due("5 to 9 are as good", x.beatFor(0, 4), 5);
        due("all are as good", one(MOTHER, 9, 4, 0).beatFor(0, 60), 1);
        due("0 is what any BEAT divides", one(NEIGHBOUR, 9, 0, 0).beatFor(0, 1), 1);
    }

    private static void kindFor() {
        quote("Terms 2", "KIND FOR one, n: the KIND as one of which it is; of several the least.");
        TwoMinutes x = one(NEIGHBOUR, 2, 0, 0);
        x.set(WATCH, 9);
        due("mother alone is", x.kindFor(0, 20), MOTHER);
        x.set(WATCH, 0);
        x.set(LOUD, 9);
        due("cook alone is", x.kindFor(0, 20), COOK);
        x = from(1);
        x.person(MOTHER, 1, 0, 0);
        x.set(LOUD, 0);
        x.set(WATCH, 0);
        due("soldier and officer are as good", x.kindFor(0, 1), SOLDIER);
        x.set(WATCH, 1);
        due("soldier, officer and mother are as good", x.kindFor(0, 1), SOLDIER);
        x.set(LOUD, 9);
        due("all but the neighbour are as good", x.kindFor(0, 1), COOK);
        x.change(0, 1, 9);
        due("all are as good", x.kindFor(0, 1), NEIGHBOUR);
    }

    private static void pairFor() {
        quote("Terms 2", "PAIR FOR two, n: the PHASES of both with which it is; of several those of which the first one's is least, then the second one's.");
        TwoMinutes x = told("neighbour at 0 beat 9;neighbour at 0 beat 9;neighbour at 0 beat 9 phase 8;");
        due("both with the third", x.pairFor(0, 1, 12), 88);
        x.change(2, 2, 0);
        due("both at 0", x.pairFor(0, 1, 30), 0);
        x = told("neighbour at 0 beat 9;neighbour at 0 beat 4;");
        due("1 is the least with which it is quiet from 0 to 2, of both", x.pairFor(0, 1, 3), 11);
        x = told("soldier at 0 beat 2;mother at 0;watch 50;");
        due("the first one's", x.pairFor(0, 1, 9), 10);
        due("the second one's", x.pairFor(1, 0, 9), 1);
        due("never quiet: all are as good", told("cook at 0;neighbour at 0 beat 1;").pairFor(0, 1, 30), 0);
        x = told("neighbour at 0 beat 9;neighbour at 0 beat 9;");
        due("quiet from 1 to 8, as well as from 0 to 7 with 11", x.pairFor(0, 1, 9), 0);
        due("quiet from 0 to 7", x.pairFor(0, 1, 8), 11);
        // SECONDS 2 to 9: quiet from 3 on with 6 and 7 (both SOUND at 2), up to 8 with 7 and 0 (both SOUND at 9)
        x = from(2);
        x.person(NEIGHBOUR, 8, 0, 0);
        x.person(NEIGHBOUR, 9, 0, 0);
        due("the first one's is least, though not the second one's", x.pairFor(0, 1, 8), 67);
        due("the first one's is least, though not the second one's", x.pairFor(1, 0, 8), 7);
    }

    private static void awayFor() {
        quote("Terms 2", "AWAY FOR n, v: the set of fewest such that, these being sent away (they never SOUND), LENGTH by n is v or more; of several the least.");
        TwoMinutes x = told("neighbour at 0 beat 1;mother at 0;neighbour at 0 beat 1;watch 4;");
        due("v 0: none needs to go", x.awayFor(1, 0), 0);
        due("the two that SOUND always", x.awayFor(9, 1), 5);
        due("just v", x.awayFor(9, 4), 5);
        due("the mother, too", x.awayFor(9, 5), 7);
        due("all", x.awayFor(9, 9), 7);
        due("not even so", x.awayFor(9, 10), NONE);
        due("all three", told("cook at 0 beat 1;cook at 0 beat 1;baker at 0 beat 1 phase 1;loud 0;").awayFor(1, 1), 7);
        x = told("neighbour at 0 beat 2;neighbour at 0 beat 2;neighbour at 0 beat 2 phase 1;");
        due("one, though 3 is a set of lesser numbers", x.awayFor(9, 1), 4);
        x = told("neighbour at 0 beat 2;neighbour at 0 beat 2 phase 1;");
        due("of several the least", x.awayFor(9, 1), 1);
        x = new TwoMinutes();
        x.seconds(60);
        due("RUN as it is counts", x.awayFor(30, 90), 0);
        due("it is one short", x.awayFor(30, 91), NONE);
        x.person(NEIGHBOUR, 1, 0, 0);
        due("it is to go", x.awayFor(30, 90), 1);
        x.seconds(1);
        due("LONGEST counts nothing: RUN is 0 now", x.awayFor(30, 30), 1);
        due("LONGEST counts nothing: RUN is 0 now", x.awayFor(30, 31), NONE);
        due("v 0 again", x.awayFor(30, 0), 0);
    }

    // ---- what is heard where

    private static void heard() {
        quote("Terms 2", "HEARD AT a CORNER by n: in how many of the next n SECONDS anybody is heard there.");
        TwoMinutes x = told("neighbour at 0 beat 2;soldier at 2 beat 3;");
        // the one SOUNDS in even SECONDS, AT 10 to 2; the other in 0, 6, .., AT 1 to 3
        int[] by12 = {6, 6, 6, 2, 0, 0, 0, 0, 0, 0, 6, 6};
        for (int corner = 0; corner < 12; corner++) {
            due("AT " + corner, x.heard(corner, 12), by12[corner]);
        }
        due("by 1", x.heard(3, 1), 1);
        due("by 6", x.heard(3, 6), 1);
        due("by 7", x.heard(3, 7), 2);
        due("by 60", x.heard(11, 60), 30);
        x.seconds(1);
        due("the next", x.heard(3, 5), 0);
        due("the next", x.heard(3, 6), 1);
        due("by 60", x.heard(11, 60), 30);
        x = one(MOTHER, 1, 0, 3);
        x.set(WATCH, 3);
        due("RUN goes on meanwhile: SECONDS 3, 7, 11", x.heard(9, 12), 3);
    }

    private static void calm() {
        quote("Terms 2", "CALM by n: the CORNER AT which that is in fewest; of several the least.");
        due("all are as calm", new TwoMinutes().calm(60), 0);
        TwoMinutes x = told("neighbour at 0 beat 2;soldier at 2 beat 3;");
        due("4 to 9 are as calm", x.calm(12), 4);
        x = told("neighbour at 2 beat 1;neighbour at 7 beat 1;neighbour at 9 beat 2;");
        // 0 to 4, 5 to 9, and, more seldom, 7 to 11
        due("10 and 11 are as calm", x.calm(2), 10);
        x.bring(2, 8);
        due("11 alone is", x.calm(2), 11);
        x = told("neighbour at 2 beat 1;neighbour at 7 beat 1;neighbour at 10 beat 2;neighbour at 8 beat 3 phase 1;");
        due("in SECOND 0 alone: 10 and 11 as any", x.calm(1), 0);
        x.seconds(1);
        due("in SECOND 1 alone: the third one is quiet", x.calm(1), 10);
    }

    private static void fits() {
        quote("Terms 2", "FITS of one by a SHEET: those PHASES of it now with which RUN is, behind 1, 2, .. SECONDS, what the numbers of the SHEET tell, one by one (-1: any).");
        TwoMinutes x = one(NEIGHBOUR, 4, 1, 0);
        x.sheet(0, 2, 3);
        due("0, 0, 0: none", x.fits(0, 0, 0), 0);
        due("0, 0, 0: none", x.fits(0, 0, 1), NONE);
        x.put(0, 0, 1);
        x.put(0, 1, 2);
        due("1, 2, 0: PHASES 2, 6", x.fits(0, 0, 0), 2);
        due("1, 2, 0: PHASES 2, 6", x.fits(0, 0, 1), 2);
        x.put(0, 2, 3);
        due("1, 2, 3: PHASES 1, 5", x.fits(0, 0, 1), 1);
        x.put(0, 2, -1);
        due("1, 2, any: PHASES 1, 2, 5, 6", x.fits(0, 0, 0), 4);
        x.put(0, 0, -1);
        x.put(0, 1, -1);
        due("any", x.fits(0, 0, 0), 9);
        due("any", x.fits(0, 0, 1), 0);
        x.put(0, 2, -2);
        due("-2 is no RUN", x.fits(0, 0, 0), 0);
        x.sheet(0, 0, 0);
        due("no numbers", x.fits(0, 0, 0), 9);
        due("no numbers", x.fits(0, 0, 1), 0);
        for (int sort = 0; sort < 4; sort++) {
            x.sheet(0, sort, 40);
            for (int i = 0; i < 39; i++) {
                x.put(0, i, -1);
            }
            // SECOND 39 is the 40th: 39 + PHASE is what 4 divides
            due("the 40th number alone, of any sort: PHASES 1, 5", x.fits(0, 0, 0), 2);
        }
        x.change(0, 1, 9);
        x.seconds(2);
        x.sheet(0, 1, 1);
        due("from now: 2 and PHASE 7", x.fits(0, 0, 1), 7);
        due("from now: 2 and PHASE 7", x.fits(0, 0, 0), 1);
        x.put(0, 0, 3);
        due("RUN goes on from now", x.fits(0, 0, 0), 8);
    }

    // ---- odds and draws

    private static void odds() {
        quote("Terms 2", "ODDS by n, k: that of n evenings just k have a cough, each by COUGH of a hundred.");
        TwoMinutes x = told("cough 50;");
        long[] above = {1, 1, 7, 7, 35, 7, 7, 1, 1};
        long[] below = {256, 32, 64, 32, 128, 32, 64, 32, 256};
        for (int k = 0; k <= 8; k++) {
            due("of 8 just " + k + ", above", x.odds(8, k, 0), above[k]);
            due("of 8 just " + k + ", below", x.odds(8, k, 1), below[k]);
        }
        due("of none, none", x.odds(0, 0, 0), 1);
        due("of none, none", x.odds(0, 0, 1), 1);
        x.set(COUGH, 99);
        due("of 8 just 8, above", x.odds(8, 8, 0), 9227446944279201L);
        due("of 8 just 8, below", x.odds(8, 8, 1), 10000000000000000L);
        due("of 8 just 0, above", x.odds(8, 0, 0), 1);
        due("of 8 just 0, below", x.odds(8, 0, 1), 10000000000000000L);
        x.set(COUGH, 0);
        due("none ever", x.odds(8, 0, 0), 1);
        due("none ever", x.odds(8, 0, 1), 1);
        due("none ever", x.odds(8, 8, 0), 0);
        due("of none, none", x.odds(0, 0, 0), 1);
        x.set(COUGH, 1);
        due("one in a hundred", x.odds(1, 1, 0), 1);
        due("one in a hundred", x.odds(1, 1, 1), 100);
        due("not one in a hundred", x.odds(1, 0, 0), 99);
    }

    private static void hope() {
        quote("Terms 2", "HOPE by n: how many have on average.");
        TwoMinutes x = new TwoMinutes();
        due("of 1", x.hope(1, 0), 1);
        due("of 1", x.hope(1, 1), 5);
        due("of 99", x.hope(99, 0), 99);
        due("of 99", x.hope(99, 1), 5);
        due("of none", x.hope(0, 0), 0);
        due("of none", x.hope(0, 1), 1);
        x.set(COUGH, 99);
        due("of 99", x.hope(99, 0), 9801);
        due("of 99", x.hope(99, 1), 100);
    }

    private static void draws() {
        quote("Terms 2", "DRAWS: z (an int; 1 at first) becomes z * 1103515245 + 12345; z >>> 16 is drawn.");
        TwoMinutes x = one(NEIGHBOUR, 9, 4, 0);
        due("z at first", x.seed(1), 1);
        x.second();
        due("z wraps, and is below 0", x.seed(1), -1770082073);
        x.second();
        x.second();
        due("behind four draws", x.seed(0), -999580867);
        x.second();
        due("from 0", x.seed(1), 12345 * 1103515245 + 12345);
        // 16838 and 38526 are drawn, the second one of a z below 0: it leaves 26 by 100 (as a number with a sign it would leave less than 0)
        x.set(COUGH, 26);
        due("26 is not below 26", x.spoilt(1), 0);
        x.set(COUGH, 27);
        due("26 is below 27", x.spoilt(1), 1);
        // from -1770082073: 10113 and 50283; from 662824084: 50283 and 63819, both of a z below 0
        x = told("neighbour at 0 phase 1;neighbour at 0 phase 1;neighbour at 0 phase 1;cough 99;");
        x.seed(662824084);
        x.second();
        due("50283 leaves 0 by 3: the first one coughs", x.of(0, 4), 0);
        all("the others hear it", 1, x.of(1, 4), x.of(2, 4));
    }

    private static void secondByDraws() {
        quote("Terms 2", "A SECOND BY DRAWS: if there are PEOPLE, a draw: the one that it leaves by how many there are; and one more: if what that leaves by 100 is below COUGH, it SOUNDS in this SECOND in any case; then a SECOND.");
        TwoMinutes x = new TwoMinutes();
        x.set(COUGH, 99);
        due("nobody: a SECOND", x.second(), 1);
        due("nobody: no draw", x.seed(1), 1);
        due("nobody: SECOND", x.state(0), 1);
        // from z 160: the draws leave 1 by 2 and 0 by 100
        x = told("neighbour at 0 phase 1;soldier at 1 phase 1;cough 0;");
        x.seed(160);
        due("0 is not below 0", x.second(), 1);
        x.seed(160);
        x.set(COUGH, 1);
        due("0 is below 1", x.second(), 0);
        due("the second one: the first one hears it", x.of(0, 4), 1);
        due("the second one: not itself", x.of(1, 4), 0);
        // from z 50: 1 and 98; from 23: 1 and 99
        x = told("neighbour at 0 phase 1;soldier at 2 phase 1;cough 98;");
        x.seed(50);
        due("98 is not below 98", x.second(), 1);
        x.set(COUGH, 99);
        x.seed(23);
        due("99 is not below 99", x.second(), 2);
        x.seed(50);
        due("98 is below 99", x.second(), 0);
        due("it REACHES as far as it does", x.of(0, 4), 0);
        // from z 6174: 7 by 8 and 0 by 100
        x = new TwoMinutes();
        x.set(COUGH, 1);
        for (int i = 0; i < 8; i++) {
            x.person(NEIGHBOUR, 9, 0, 0);
        }
        x.seed(6174);
        due("it SOUNDS anyway", x.second(), 0);
        all("each is heard once", 7, x.of(0, 4), x.of(7, 4));
        x.seed(6174);
        due("the last one SOUNDS in any case", x.second(), 0);
        due("the last one hears none", x.of(7, 4), 7);
        all("the others hear it", 8, x.of(0, 4), x.of(6, 4));
        due("in this SECOND alone", x.seconds(1), 1);
        due("SECOND", x.state(0), 3);
    }

    private static void spoilt() {
        quote("Terms 2", "SPOILT: in how many of n SECONDS BY DRAWS, each tried from how all is now (z alone goes on), RUN is less then than behind a SECOND (nothing changes, z neither).");
        TwoMinutes x = told("neighbour at 0 phase 1;cough 27;");
        // what is left by 100 by the second draw each time, from z 1: 26, 83, 95, ..
        due("26", x.spoilt(1), 1);
        due("83, z having gone on", x.spoilt(2), 1);
        due("95", x.spoilt(3), 1);
        x.set(COUGH, 26);
        due("26 is not below 26", x.spoilt(3), 0);
        x.set(COUGH, 84);
        due("26, 83", x.spoilt(3), 2);
        x.set(COUGH, 96);
        due("26, 83, 95", x.spoilt(3), 3);
        due("z is as it was", x.seed(1), 1);
        due("SECOND is as it was", x.state(0), 0);
        // from z 23 the second draw leaves 99, from 50 it leaves 98
        x.set(COUGH, 99);
        x.seed(23);
        due("99, from another z", x.spoilt(1), 0);
        due("z is as it was", x.seed(50), 23);
        due("98, from another z", x.spoilt(1), 1);
        due("z is as it was", x.seed(1), 50);
        // it SOUNDS in SECOND 4: were a try to begin where the last one ended, it would be by then
        x.set(COUGH, 0);
        due("each from how all is now", x.spoilt(30), 0);
        x.set(COUGH, 99);
        x.seconds(4);
        due("one SOUNDS anyway: RUN is 0 behind a SECOND", x.spoilt(30), 0);
        x.seconds(4);
        due("RUN is 3, LONGEST is 4", x.state(2), 4);
        due("by RUN, though LONGEST stays", x.spoilt(1), 1);
        TwoMinutes nobody = new TwoMinutes();
        nobody.set(COUGH, 99);
        due("nobody coughs", nobody.spoilt(30), 0);
    }
}
