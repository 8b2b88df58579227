/** The face, Terms ahead of their parts, and Terms 1 (LAWS, PEOPLE, who SOUNDS, a SECOND), sentence by sentence. */
public final class SentencesOfTermsTest extends Sentences {
    public static void main(String[] args) throws Exception {
        runAll(SentencesOfTermsTest.class);
    }

    // ---- ahead of Terms

    private static void constants() {
        quote("The public face", "BAD = -1, FULL = -2, NONE = -3");
        due("BAD", TwoMinutes.BAD, -1);
        due("FULL", TwoMinutes.FULL, -2);
        due("NONE", TwoMinutes.NONE, -3);
    }

    private static void calls512() {
        quote("What it is", "An object is used for at most 512 calls after it has been made");
        TwoMinutes x = new TwoMinutes();
        for (int i = 1; i <= 510; i++) {
            due("call " + i, x.seconds(60), Math.min(9999, 60 * i));
        }
        due("the 511th call", x.state(0), 60 * 510);
        due("the 512th call", x.broken(0), NONE);
        // the dearest calls, too
        x = full();
        for (int i = 0; i < 400; i++) {
            due("awayFor", x.awayFor(30, 99), NONE);
        }
    }

    // ---- Terms

    private static void refusedCallsChangeNothing() {
        quote("Terms", "Answers below 0, where not told otherwise, are refusals; such a call changes nothing");
        unchanged("feed BAD", BAD, x -> x.feed(32, 0));
        unchanged("feed BAD", BAD, x -> x.feed(32, 9));
        unchanged("feed FULL", FULL, x -> x.feed(0x2020202020202020L, 4));
        unchanged("set BAD", BAD, x -> x.set(GOAL, 0));
        unchanged("set BAD", BAD, x -> x.set(LOUD, 10));
        unchanged("set BAD", BAD, x -> x.set(4, 1));
        unchanged("lawOf BAD", BAD, x -> x.lawOf(4));
        unchanged("person BAD", BAD, x -> x.person(6, 1, 0, 0));
        unchanged("person FULL", FULL, x -> x.person(0, 1, 0, 0));
        unchanged("of BAD", BAD, x -> x.of(8, 0));
        unchanged("mind BAD", BAD, x -> x.mind(0, 6));
        unchanged("mind BAD", BAD, x -> x.mind(8, 0));
        unchanged("change BAD", BAD, x -> x.change(0, 1, 10));
        unchanged("change BAD", BAD, x -> x.change(0, 2, 9));
        unchanged("change BAD", BAD, x -> x.change(0, 3, 1));
        unchanged("change BAD", BAD, x -> x.change(8, 1, 1));
        unchanged("bring BAD", BAD, x -> x.bring(0, 12));
        unchanged("corner BAD", BAD, x -> x.corner(12, 0));
        unchanged("seconds BAD", BAD, x -> x.seconds(0));
        unchanged("seconds BAD", BAD, x -> x.seconds(61));
        unchanged("spoilt BAD", BAD, x -> x.spoilt(31));
        unchanged("state BAD", BAD, x -> x.state(6));
        unchanged("lasts BAD", BAD, x -> x.lasts(61));
        unchanged("length BAD", BAD, x -> x.length(61));
        unchanged("kept NONE", NONE, x -> x.kept());
        unchanged("broken BAD", BAD, x -> x.broken(2));
        unchanged("phaseFor BAD", BAD, x -> x.phaseFor(8, 1));
        unchanged("beatFor BAD", BAD, x -> x.beatFor(0, 61));
        unchanged("kindFor BAD", BAD, x -> x.kindFor(0, 0));
        unchanged("pairFor BAD", BAD, x -> x.pairFor(3, 3, 1));
        unchanged("awayFor BAD", BAD, x -> x.awayFor(1, 100));
        unchanged("awayFor NONE", NONE, x -> x.awayFor(30, 99));
        unchanged("heard BAD", BAD, x -> x.heard(0, 61));
        unchanged("calm BAD", BAD, x -> x.calm(61));
    }

    private static void refusedCallsOfThingsChangeNothing() {
        quote("Terms", "such a call changes nothing");
        unchanged("fits BAD", BAD, x -> x.fits(4, 0, 0));
        unchanged("fits -11", -11, x -> x.fits(3, 0, 0));
        unchanged("fits NONE", NONE, x -> x.fits(1, 0, 1));
        unchanged("odds BAD", BAD, x -> x.odds(9, 0, 0));
        unchanged("hope BAD", BAD, x -> x.hope(100, 0));
        unchanged("prove BAD", BAD, x -> x.prove(0, 11));
        unchanged("prove BAD", BAD, x -> x.prove(8, 1));
        unchanged("row -9", -9, x -> x.row(9, 0));
        unchanged("alterRow -9", -9, x -> x.alterRow(9, 0, 5));
        unchanged("alterRow -9", -9, x -> x.alterRow(0, 3, 5));
        unchanged("judge BAD", BAD, x -> x.judge(8));
        unchanged("minds BAD", BAD, x -> x.minds(0, 0, 7, 2));
        unchanged("minds -11", -11, x -> x.minds(3, 0, 0, 1));
        unchanged("minds -13", -13, x -> x.minds(1, 0, 0, 1));
        unchanged("minds -12", -12, x -> x.minds(0, 1, 0, 4));
        unchanged("sheet BAD", BAD, x -> x.sheet(0, 0, 41));
        unchanged("sheet BAD", BAD, x -> x.sheet(0, 4, 1));
        unchanged("sheet -14", -14, x -> x.sheet(0, 0, -1));
        unchanged("put BAD", BAD, x -> x.put(4, 0, 1));
        unchanged("put -11", -11, x -> x.put(3, 0, 1));
        unchanged("put -12", -12, x -> x.put(0, 4, 1));
        unchanged("item BAD", BAD, x -> x.item(0, 4, 0));
        unchanged("item -11", -11, x -> x.item(3, 0, 0));
        unchanged("item -13", -13, x -> x.item(0, 1, 0));
        unchanged("item -12", -12, x -> x.item(0, 0, 4));
        unchanged("shelf BAD", BAD, x -> x.shelf(0, 0, 8));
        unchanged("shelf BAD", BAD, x -> x.shelf(0, 1, 4));
        unchanged("shelf BAD", BAD, x -> x.shelf(0, 3, 0));
        unchanged("taken BAD", BAD, x -> x.taken(0, 6));
        unchanged("taken -11", -11, x -> x.taken(3, 0));
        unchanged("taken -13", -13, x -> x.taken(0, 1));
        unchanged("trace NONE", NONE, x -> x.trace(11));
        unchanged("many BAD", BAD, x -> x.many(7));
        TwoMinutes x = one(COOK, 2, 3, 4);
        due("again NONE", x.again(), NONE);
        due("again NONE: PEOPLE", x.many(0), 1);
        due("again NONE: PHASE", x.of(0, 2), 3);
    }

    private static void faultUsesUpTheTape() {
        quote("Terms", "(but that THE TAPE is used up by town())");
        TwoMinutes x = full();
        // 197 bytes lie there; what comes behind them can't stand there
        x.feed(';', 1);
        due("town()", x.town(), -100 - 197);
        due("bytes of THE TAPE", x.many(5), 0);
        changed("a FAULT", x, "many(5)", "town()", "behind town()", "behind again(): many");
        x = full();
        x.feed(';', 1);
        x.town();
        due("town() without any byte", x.town(), 0);
    }

    private static void firstNamed() {
        quote("Terms", "of several the first named");
        TwoMinutes x = full();
        due("feed: BAD, FULL", x.feed(0, 9), BAD);
        due("person: BAD, FULL", x.person(0, 10, 0, 0), BAD);
        due("broken: BAD, NONE", new TwoMinutes().broken(2), BAD);
        due("awayFor: BAD, NONE", x.awayFor(31, 99), BAD);
        due("awayFor: BAD, NONE", x.awayFor(1, 100), BAD);
        due("fits: BAD, -11", x.fits(3, 8, 0), BAD);
        due("fits: BAD, -11", x.fits(3, 0, 2), BAD);
        due("fits: -11, NONE", x.fits(3, 0, 1), -11);
        due("fits: BAD, NONE", x.fits(1, 0, 2), BAD);
        due("minds: BAD, -11", x.minds(3, 0, 0, 9), BAD);
        due("minds: BAD, -13", x.minds(1, 0, 8, 0), BAD);
        due("minds: BAD, -12", x.minds(0, 5, 7, 2), BAD);
        due("minds: -11, -12", x.minds(3, -1, 0, 0), -11);
        due("minds: -13, -12", x.minds(1, -1, 0, 0), -13);
        due("sheet: BAD, -14", x.sheet(4, 0, -1), BAD);
        due("sheet: BAD, -14", x.sheet(0, 4, -1), BAD);
        due("put: BAD, -12", x.put(4, 99, 0), BAD);
        due("put: -11, -12", x.put(3, 99, 0), -11);
        due("item: BAD, -11", x.item(3, 4, 0), BAD);
        due("item: BAD, -13 and -12", x.item(0, 4, 99), BAD);
        due("item: -11, -12", x.item(3, 0, 99), -11);
        due("item: -13, -12", x.item(0, 1, 99), -13);
        due("taken: BAD, -11", x.taken(3, 6), BAD);
        due("taken: BAD, -13", x.taken(0, 14), BAD);
        due("taken: -11, -13", x.taken(3, 10), -11);
    }

    private static void bad() {
        quote("Terms", "BAD (-1) there is no such thing, or a number is not as told");
        TwoMinutes x = new TwoMinutes();
        all("no such one, as there is nobody", -1, x.of(0, 0), x.mind(0, 0), x.change(0, 1, 1), x.bring(0, 0), x.phaseFor(0, 1),
                x.beatFor(0, 1), x.kindFor(0, 1), x.pairFor(0, 1, 1), x.fits(0, 0, 0), x.prove(0, 1), x.judge(0),
                x.minds(0, 0, 0, 0), x.shelf(0, 0, 0));
        x.person(0, 1, 0, 0);
        all("no such number", -1, x.set(0, 100), x.person(0, 0, 0, 0), x.of(0, 7), x.corner(0, 2), x.seconds(-1), x.many(7));
    }

    private static void fullAnswer() {
        quote("Terms", "FULL (-2)");
        TwoMinutes x = full();
        due("a byte too many", x.feed(0, 4), -2);
        due("the ninth one", x.person(0, 1, 0, 0), -2);
    }

    private static void noneAnswer() {
        quote("Terms", "NONE (-3)");
        TwoMinutes x = told("goal 61;");
        all("NONE", -3, x.kept(), x.broken(0), x.broken(1), x.awayFor(1, 2), x.trace(0), x.again());
    }

    private static void minus11() {
        quote("Terms", "and what the host refuses: -11 nothing where something is asked");
        TwoMinutes x = one(0, 1, 0, 0);
        all("missing SHEETS", -11, x.fits(0, 0, 0), x.minds(0, 0, 0, 0), x.put(0, 0, 0), x.item(0, 0, 0));
        all("nothing on a SHELF", -11, x.taken(0, 0), x.taken(0, 10));
    }

    private static void minus12() {
        quote("Terms", "-12 a place outside");
        TwoMinutes x = one(0, 1, 0, 0);
        x.sheet(0, 0, 0);
        all("of no items", -12, x.put(0, 0, 0), x.item(0, 0, 0), x.minds(0, 0, 0, 1), x.minds(0, 1, 0, 0));
    }

    private static void minus13() {
        quote("Terms", "-13 a thing of another sort or kind");
        TwoMinutes x = one(SOLDIER, 1, 0, 0);
        x.sheet(0, 1, 2);
        x.shelf(0, 1, 0);
        x.shelf(1, 0, 0);
        all("a row of shorts", -13, x.item(0, 0, 0), x.item(0, 2, 0), x.minds(0, 0, 0, 1), x.taken(0, 10), x.taken(0, 0));
        all("a soldier", -13, x.taken(1, COOK), x.taken(1, OFFICER), x.taken(1, 11));
    }

    private static void minus14() {
        quote("Terms", "-14 a size below 0");
        TwoMinutes x = new TwoMinutes();
        all("below 0", -14, x.sheet(0, 0, -1), x.sheet(3, 3, MIN));
        due("just 0", x.sheet(0, 0, 0), 1);
    }

    private static void minus15() {
        quote("Terms", "-15 parted by 0");
        TwoMinutes x = told("cook at 0 beat 1;cook at 0 beat 1;cook at 0 beat 1;");
        for (int i = 0; i < 3; i++) {
            x.shelf(i, 0, i);
        }
        due("by 1", x.act(0, 2, 8), 8);
        due("by 0", x.act(1, 2, 8), -15);
        due("by -1", x.act(2, 2, 8), -8);
    }

    private static void setsByBits() {
        quote("Terms", "Sets are told by bits.");
        TwoMinutes x = new TwoMinutes();
        for (int i = 0; i < 8; i++) {
            due("nobody there", x.corner(i, 0), 0);
            x.person(NEIGHBOUR, 9, i == 7 ? 0 : 1, i);
            due("one alone AT " + i, x.corner(i, 0), 1 << i);
        }
        due("the eighth alone SOUNDS", x.state(5), 128);
        due("the eighth alone is heard", x.corner(9, 1), 128);
        due("the eighth alone is to go", x.awayFor(1, 1), 128);
        for (int i = 0; i < 8; i++) {
            x.bring(i, 3);
            x.change(i, 1, 1);
        }
        all("all eight", 255, x.corner(3, 0), x.corner(3, 1), x.state(5), x.awayFor(1, 1));
    }

    private static void quotientsAreCut() {
        quote("Terms", "Quotients are cut towards 0.");
        TwoMinutes x = one(NEIGHBOUR, 4, 0, 0);
        x.shelf(0, 0, 0);
        int[] xs = {-8, -7, -5, -4, -3, -1, 0, 1, 3, 4, 5, 7, 8};
        int[] parted = {-2, -1, -1, -1, 0, 0, 0, 0, 0, 1, 1, 1, 2};
        for (int i = 0; i < xs.length; i++) {
            due(xs[i] + " by 4", x.act(0, 2, xs[i]), parted[i]);
        }
    }

    private static void partsOfFractions() {
        quote("Terms", "A part of a fraction: 0 above the line, 1 below it, without a common divisor, below above 0 (0 is 0 by 1).");
        TwoMinutes x = told("cough 75;");
        due("3 by 4, above", x.hope(1, 0), 3);
        due("3 by 4, below", x.hope(1, 1), 4);
        due("a whole number, above", x.hope(4, 0), 3);
        due("a whole number, below", x.hope(4, 1), 1);
        due("0, above", x.hope(0, 0), 0);
        due("0, below", x.hope(0, 1), 1);
        x.set(COUGH, 0);
        due("0, above", x.odds(8, 1, 0), 0);
        due("0, below", x.odds(8, 1, 1), 1);
        due("0, above", x.hope(99, 0), 0);
        due("0, below", x.hope(99, 1), 1);
        all("no such part", BAD, x.hope(1, -1), x.hope(1, 2), x.odds(1, 1, -1), x.odds(1, 1, 2));
    }

    // ---- Terms 1: LAWS and what is counted

    private static void law(int law, String name, int least, int most, int first) {
        TwoMinutes x = new TwoMinutes();
        due(name + " at first", x.lawOf(law), first);
        all(name + " too small", BAD, x.set(law, least - 1), x.set(law, MIN), x.set(law, -1));
        all(name + " too large", BAD, x.set(law, most + 1), x.set(law, MAX));
        due(name + " as it was", x.lawOf(law), first);
        due(name + " least", x.set(law, least), first);
        due(name + " is least", x.lawOf(law), least);
        due(name + " most", x.set(law, most), least);
        due(name + " is most", x.lawOf(law), most);
        due(name + " least, in a TEXT", told(name + " " + least + ";").lawOf(law), least);
        due(name + " most, in a TEXT", told(name + " " + most + ";").lawOf(law), most);
        due(name + " too large, in a TEXT", townOf(name + " " + (most + 1) + ";"), -100 - name.length() - 1);
        if (least > 0) {
            due(name + " too small, in a TEXT", townOf(name + " " + (least - 1) + ";"), -100 - name.length() - 1);
        }
    }

    private static void lawGoal() {
        quote("Terms 1", "LAWS: 0 GOAL (1 to 99; 12 at first)");
        law(0, "goal", 1, 99, 12);
    }

    private static void lawLoud() {
        quote("Terms 1", "1 LOUD (0 to 9; 1)");
        law(1, "loud", 0, 9, 1);
    }

    private static void lawWatch() {
        quote("Terms 1", "2 WATCH (0 to 99; 6)");
        law(2, "watch", 0, 99, 6);
    }

    private static void lawCough() {
        quote("Terms 1", "3 COUGH (0 to 99 of a hundred; 20)");
        law(3, "cough", 0, 99, 20);
    }

    private static void runIsHeld() {
        quote("Terms 1", "SECOND, RUN (how many quiet ones in a row there were up to now; held to 9999)");
        TwoMinutes x = new TwoMinutes();
        for (int i = 0; i < 166; i++) {
            x.seconds(60);
        }
        due("RUN", x.seconds(38), 9998);
        due("RUN", x.seconds(1), 9999);
        due("RUN is held", x.seconds(1), 9999);
        due("RUN is held by draws, too", x.second(), 9999);
        due("RUN is held when tried, too", x.lasts(60), 9999);
        due("SECOND is not held", x.state(0), 10001);
        x.person(NEIGHBOUR, 1, 0, 0);
        due("RUN breaks off", x.seconds(1), 0);
    }

    private static void longest() {
        quote("Terms 1", "LONGEST (the greatest RUN so far; all 0 at first)");
        TwoMinutes x = new TwoMinutes();
        all("at first", 0, x.state(0), x.state(1), x.state(2));
        x.seconds(5);
        x.person(NEIGHBOUR, 4, 3, 0);
        int[] run = {0, 1, 2, 3, 0, 1, 2, 3};
        for (int i = 0; i < run.length; i++) {
            due("RUN", x.seconds(1), run[i]);
            due("LONGEST", x.state(2), 5);
        }
        x.change(0, 1, 9);
        x.change(0, 2, 5);
        due("RUN", x.seconds(6), 5);
        due("LONGEST, as great", x.state(2), 5);
        due("RUN", x.seconds(1), 6);
        due("LONGEST", x.state(2), 6);
    }

    private static void done() {
        quote("Terms 1", "DONE (1, as soon as RUN is GOAL or more behind a SECOND, for good; 0 at first)");
        TwoMinutes x = told("goal 3;");
        due("at first", x.state(3), 0);
        x.seconds(2);
        due("RUN is 2", x.state(3), 0);
        x.set(GOAL, 1);
        due("RUN is GOAL or more, but not behind a SECOND", x.state(3), 0);
        TwoMinutes y = told("goal 3;");
        y.seconds(2);
        y.set(GOAL, 1);
        y.person(NEIGHBOUR, 1, 0, 0);
        y.seconds(1);
        due("RUN is 0 behind a SECOND", y.state(3), 0);
        x.seconds(1);
        due("RUN is more than GOAL behind a SECOND", x.state(3), 1);
        x = told("goal 3;");
        x.seconds(3);
        due("RUN is GOAL", x.state(3), 1);
        x.set(GOAL, 99);
        x.person(NEIGHBOUR, 1, 0, 0);
        x.seconds(2);
        due("for good", x.state(3), 1);
        x = told("goal 1;");
        x.second();
        due("behind a SECOND BY DRAWS, too", x.state(3), 1);
    }

    // ---- Terms 1: CORNERS and PEOPLE

    private static void corners() {
        quote("Terms 1", "CORNERS 0 to 11 round (next to 11 is 0).");
        same("from 11", heardAt(one(SOLDIER, 1, 0, 11)), "100000000011");
        same("from 0", heardAt(one(SOLDIER, 1, 0, 0)), "110000000001");
        same("from 5", heardAt(one(SOLDIER, 1, 0, 5)), "000011100000");
        TwoMinutes x = one(0, 1, 0, 0);
        all("no such CORNER", BAD, x.person(0, 1, 0, -1), x.person(0, 1, 0, 12), x.bring(0, -1), x.bring(0, 12), x.corner(-1, 0),
                x.corner(12, 0), x.heard(-1, 1), x.heard(12, 1));
        due("the last CORNER", x.bring(0, 11), 0);
        due("the first CORNER", x.bring(0, 0), 11);
    }

    private static void peopleEightAtMost() {
        quote("Terms 1", "PEOPLE, 8 at most, numbered as they come");
        TwoMinutes x = new TwoMinutes();
        for (int i = 0; i < 8; i++) {
            due("no such one yet", x.of(i, 3), BAD);
            due("its number", x.person(0, 1, 0, 11 - i), i);
            due("it is this one", x.of(i, 3), 11 - i);
        }
        due("the ninth", x.person(0, 1, 0, 0), FULL);
        due("no ninth one", x.of(8, 0), BAD);
        due("eight", x.many(0), 8);
    }

    private static void kinds() {
        quote("Terms 1", "each of a KIND: 0 neighbour; 1 cook, 2 soldier, 5 mother (under neighbour); 3 baker (under cook); 4 officer (under soldier)");
        TwoMinutes x = told("neighbour at 0;cook at 0;soldier at 0;baker at 0;officer at 0;mother at 0;");
        String[] under = {"100000", "110000", "101000", "110100", "101010", "100001"};
        for (int kind = 0; kind < 6; kind++) {
            due("KIND", x.of(kind, 0), kind);
            x.shelf(0, 0, kind);
            for (int as = 0; as < 6; as++) {
                due("KIND " + kind + " taken for " + as, x.taken(0, as), under[kind].charAt(as) == '1' ? kind : -13);
            }
        }
        all("no such KIND", BAD, x.person(-1, 1, 0, 0), x.person(6, 1, 0, 0), x.mind(0, -1), x.mind(0, 6), x.taken(0, -1), x.taken(0, 6));
    }

    private static void beatAndPhase() {
        quote("Terms 1", "with a BEAT (1 to 9), a PHASE (0 to 8), AT a CORNER");
        TwoMinutes x = new TwoMinutes();
        all("BEAT too small, too large", BAD, x.person(0, 0, 0, 0), x.person(0, 10, 0, 0), x.person(0, MIN, 0, 0), x.person(0, MAX, 0, 0));
        all("PHASE too small, too large", BAD, x.person(0, 1, -1, 0), x.person(0, 1, 9, 0), x.person(0, 1, MIN, 0), x.person(0, 1, MAX, 0));
        due("least", x.person(0, 1, 0, 0), 0);
        due("most", x.person(0, 9, 8, 11), 1);
        due("BEAT least", x.of(0, 1), 1);
        due("PHASE least", x.of(0, 2), 0);
        due("AT least", x.of(0, 3), 0);
        due("BEAT most", x.of(1, 1), 9);
        due("PHASE most", x.of(1, 2), 8);
        due("AT most", x.of(1, 3), 11);
    }

    private static void noiseIsHeld() {
        quote("Terms 1", "and NOISE: how often it heard another one (0 to 9999; 0 at first)");
        TwoMinutes x = told("neighbour at 0 beat 1;neighbour at 0 beat 1;");
        due("at first", x.of(0, 4), 0);
        for (int i = 0; i < 166; i++) {
            x.seconds(60);
        }
        x.seconds(38);
        due("NOISE", x.of(0, 4), 9998);
        x.seconds(1);
        due("NOISE", x.of(0, 4), 9999);
        x.seconds(1);
        due("NOISE is held", x.of(0, 4), 9999);
        due("NOISE of all is not", x.state(4), 19998);
        x.prove(0, 2);
        due("NOISE is held in ROWS, too", x.row(1, 2), 9999);
        for (int i = 2; i < 8; i++) {
            x.person(0, 1, 0, 0);
        }
        x.anew();
        for (int i = 0; i < 23; i++) {
            x.seconds(60);
        }
        x.seconds(48);
        due("NOISE by sevens", x.of(7, 4), 9996);
        x.seconds(1);
        due("NOISE by sevens is held", x.of(7, 4), 9999);
    }

    // ---- Terms 1: who SOUNDS

    private static void soundsByRunAhead() {
        quote("Terms 1", "SOUNDS (in a SECOND, by RUN as it is ahead of it)");
        TwoMinutes x = told("mother at 0;watch 1;");
        due("RUN is 0 ahead of SECOND 0, 1 behind it", x.of(0, 5), 0);
        due("none SOUNDS in SECOND 0", x.seconds(1), 1);
        due("RUN is 1 ahead of SECOND 1", x.of(0, 5), 1);
        due("it SOUNDS in SECOND 1", x.seconds(1), 0);
        due("RUN is 0 ahead of SECOND 2", x.of(0, 5), 0);
    }

    private static void neighbourSounds() {
        quote("Terms 1", "neighbour: if SECOND and PHASE, together, are what BEAT divides.");
        same("0 is what any BEAT divides", sounds(one(0, 9, 0, 0), 0, 19), "1000000001000000001");
        same("BEAT 1", sounds(one(0, 1, 8, 0), 0, 5), "11111");
        same("PHASE 8, BEAT 9", sounds(one(0, 9, 8, 0), 0, 12), "010000000010");
        same("PHASE 1, BEAT 9", sounds(one(0, 9, 1, 0), 0, 10), "0000000010");
        same("PHASE above BEAT", sounds(one(0, 3, 8, 0), 0, 6), "010010");
        same("PHASE is BEAT", sounds(one(0, 4, 4, 0), 0, 6), "100010");
    }

    private static void cookSounds() {
        quote("Terms 1", "cook: as neighbour, and only if RUN is LOUD or more as well.");
        TwoMinutes x = one(COOK, 1, 0, 0);
        x.set(LOUD, 0);
        same("LOUD 0", sounds(x, 0, 4), "1111");
        x.set(LOUD, 2);
        same("LOUD 2", sounds(x, 0, 7), "0010010");
        x = one(COOK, 4, 1, 0);
        x.set(LOUD, 3);
        same("RUN is just LOUD at 3", sounds(x, 0, 8), "00010001");
        x = one(COOK, 4, 1, 0);
        x.set(LOUD, 4);
        same("RUN is 3 at 3, more than LOUD at 7", sounds(x, 0, 12), "000000010000");
        x = one(COOK, 9, 1, 0);
        x.set(LOUD, 9);
        same("LOUD 9, RUN 8 at 8", sounds(x, 0, 19), "0000000000000000010");
    }

    private static void bakerSounds() {
        quote("Terms 1", "baker: as cook; or if SECOND is what 7 divides.");
        TwoMinutes x = one(BAKER, 9, 4, 0);
        x.set(LOUD, 9);
        same("by 7 alone", sounds(x, 0, 22), "1000000100000010000001");
        x = one(BAKER, 4, 1, 0);
        x.set(LOUD, 2);
        same("as cook, too: 3, and 11 (RUN is 3)", sounds(x, 0, 12), "100100010001");
        x = one(BAKER, 1, 0, 0);
        x.set(LOUD, 1);
        same("RUN is 0 at 7 or not", sounds(x, 0, 9), "101010110");
    }

    private static void soldierSounds() {
        quote("Terms 1", "soldier: as neighbour, in even SECONDS alone.");
        same("BEAT 1", sounds(one(SOLDIER, 1, 0, 0), 0, 6), "101010");
        same("BEAT 3", sounds(one(SOLDIER, 3, 0, 0), 0, 13), "1000001000001");
        same("BEAT 2, PHASE 1", sounds(one(SOLDIER, 2, 1, 0), 0, 8), "00000000");
        same("an even SECOND, with an odd PHASE", sounds(one(SOLDIER, 3, 1, 0), 0, 9), "001000001");
    }

    private static void officerSounds() {
        quote("Terms 1", "officer: as soldier; or if RUN is twice its BEAT.");
        same("RUN 4, in an even or an odd SECOND", sounds(one(OFFICER, 2, 1, 0), 0, 15), "000010000100001");
        same("as soldier alone: RUN 6 is never", sounds(one(OFFICER, 3, 1, 0), 0, 15), "001000001000001");
        TwoMinutes x = one(MOTHER, 9, 1, 0);
        x.set(WATCH, 99);
        x.seconds(19);
        x.mind(0, OFFICER);
        x.change(0, 1, 9);
        x.change(0, 2, 0);
        due("RUN 19, more than twice BEAT", x.of(0, 5), 0);
        x.anew();
        x.change(0, 1, 1);
        due("RUN 0", x.of(0, 5), 0);
        // SECOND 19, 20, ..: as soldier in even ones; so RUN is never 2
        same("BEAT 1", sounds(x, 0, 4), "0101");
        x = one(MOTHER, 8, 1, 0);
        x.set(WATCH, 99);
        x.seconds(17);
        x.mind(0, OFFICER);
        due("RUN 17", x.of(0, 5), 0);
        x = one(MOTHER, 8, 1, 0);
        x.set(WATCH, 99);
        x.seconds(16);
        x.mind(0, OFFICER);
        due("RUN 16", x.of(0, 5), 1);
    }

    private static void motherSounds() {
        quote("Terms 1", "mother: if RUN is WATCH or more.");
        TwoMinutes x = one(MOTHER, 1, 0, 0);
        x.set(WATCH, 0);
        same("WATCH 0", sounds(x, 0, 4), "1111");
        x.set(WATCH, 3);
        same("WATCH 3", sounds(x, 0, 8), "00010001");
        x = new TwoMinutes();
        x.seconds(30);
        x.person(MOTHER, 9, 1, 0);
        x.set(WATCH, 31);
        due("RUN 30, WATCH 31", x.of(0, 5), 0);
        x.set(WATCH, 30);
        due("RUN 30, WATCH 30", x.of(0, 5), 1);
        x.set(WATCH, 29);
        due("RUN 30, WATCH 29", x.of(0, 5), 1);
    }

    // ---- Terms 1: how far it REACHES

    private static void neighbourReaches() {
        quote("Terms 1", "REACHES: neighbour: 2.");
        due("REACHES", one(NEIGHBOUR, 1, 8, 0).of(0, 6), 2);
        same("heard", heardAt(one(NEIGHBOUR, 1, 0, 6)), "000011111000");
    }

    private static void cookReaches() {
        quote("Terms 1", "cook: as neighbour, and LOUD.");
        for (int loud = 0; loud <= 9; loud++) {
            TwoMinutes x = one(COOK, 1, 8, 0);
            x.set(LOUD, loud);
            due("REACHES", x.of(0, 6), 2 + loud);
        }
    }

    private static void bakerReaches() {
        quote("Terms 1", "baker: as cook, twice that.");
        for (int loud = 0; loud <= 9; loud++) {
            TwoMinutes x = one(BAKER, 1, 8, 0);
            x.set(LOUD, loud);
            due("REACHES", x.of(0, 6), 4 + 2 * loud);
        }
        TwoMinutes x = one(BAKER, 1, 0, 3);
        x.set(LOUD, 9);
        same("22 steps: all round", heardAt(x), "111111111111");
        x.set(LOUD, 0);
        same("4 steps", heardAt(x), "111111110001");
    }

    private static void soldierReaches() {
        quote("Terms 1", "soldier: as neighbour, less 1.");
        due("REACHES", one(SOLDIER, 1, 8, 0).of(0, 6), 1);
        same("heard", heardAt(one(SOLDIER, 1, 0, 6)), "000001110000");
    }

    private static void officerReaches() {
        quote("Terms 1", "officer: as soldier, and a third of its PHASE (cut).");
        int[] reaches = {1, 1, 1, 2, 2, 2, 3, 3, 3};
        for (int phase = 0; phase <= 8; phase++) {
            due("PHASE " + phase, one(OFFICER, 1, phase, 0).of(0, 6), reaches[phase]);
        }
    }

    private static void motherReaches() {
        quote("Terms 1", "mother: as neighbour, thrice that.");
        due("REACHES", one(MOTHER, 1, 8, 0).of(0, 6), 6);
        TwoMinutes x = one(MOTHER, 1, 0, 2);
        x.set(WATCH, 0);
        same("6 steps: all round, the one over against it, too", heardAt(x), "111111111111");
    }

    private static void heardSoManyStepsOff() {
        quote("Terms 1", "One that SOUNDS is heard AT all CORNERS that are so many steps off at most, the shorter way round.");
        same("AT its own, and over 0", heardAt(one(NEIGHBOUR, 1, 0, 1)), "111100000001");
        same("over 11", heardAt(one(NEIGHBOUR, 1, 0, 10)), "100000001111");
        same("none that doesn't SOUND", heardAt(one(NEIGHBOUR, 2, 1, 1)), "000000000000");
        TwoMinutes x = one(COOK, 1, 0, 11);
        x.seconds(3);
        // LOUD 3: SOUNDS now, and REACHES 5 steps: the CORNER over against it is left out
        x.set(LOUD, 3);
        x.anew();
        x.seconds(3);
        same("5 steps", heardAt(x), "111110111111");
        x = one(MOTHER, 1, 0, 11);
        x.set(WATCH, 0);
        same("6 steps", heardAt(x), "111111111111");
    }

    // ---- Terms 1: a SECOND

    private static void allAsItBegins() {
        quote("Terms 1", "A SECOND: (1) by all as it begins some SOUND");
        // the neighbour, the first one, SOUNDS in SECOND 2: by RUN the others SOUND all the same
        TwoMinutes x = told("neighbour at 0 beat 3 phase 1;mother at 0;cook at 0 beat 1;watch 2;loud 2;");
        x.seconds(2);
        due("all of them", x.state(5), 7);
        x.seconds(1);
        all("NOISE of each", 2, x.of(0, 4), x.of(1, 4), x.of(2, 4));
    }

    private static void noiseOfEach() {
        quote("Terms 1", "NOISE of each is 1 more for each other one that SOUNDS and is heard AT its CORNER.");
        TwoMinutes x = told("neighbour at 0 beat 1;soldier at 2 beat 1;neighbour at 11 beat 2 phase 1;mother at 3;");
        x.seconds(1);
        // 0 and 1 SOUND: 0 is heard AT 10 to 2, 1 AT 1 to 3
        due("not itself, nor one out of reach", x.of(0, 4), 0);
        due("just in reach", x.of(1, 4), 1);
        due("over 11", x.of(2, 4), 1);
        due("just in the soldier's reach, not in the neighbour's", x.of(3, 4), 1);
        x.bring(3, 2);
        x.seconds(2);
        // SECOND 1: 0 and 2 SOUND (2 is heard AT 9 to 1); SECOND 2: 0 and 1, both heard AT 2
        due("one of two", x.of(0, 4), 1);
        due("each SECOND", x.of(1, 4), 3);
        due("each SECOND", x.of(2, 4), 3);
        due("for each other one", x.of(3, 4), 1 + 1 + 2);
    }

    private static void quietOrNot() {
        quote("Terms 1", "(2) If none SOUNDS, RUN is 1 more, and LONGEST, DONE by that; else RUN is 0.");
        TwoMinutes x = told("goal 1;");
        due("nobody: quiet", x.seconds(1), 1);
        due("LONGEST", x.state(2), 1);
        due("DONE", x.state(3), 1);
        x = told("neighbour at 0 beat 2 phase 0;soldier at 6;goal 1;");
        due("none hears it; it is not quiet", x.seconds(1), 0);
        due("LONGEST", x.state(2), 0);
        due("DONE", x.state(3), 0);
        due("none SOUNDS", x.seconds(1), 1);
        due("LONGEST", x.state(2), 1);
        due("DONE", x.state(3), 1);
        due("one SOUNDS", x.seconds(1), 0);
        due("LONGEST", x.state(2), 1);
        due("DONE", x.state(3), 1);
    }

    private static void secondIsOneMore() {
        quote("Terms 1", "SECOND is 1 more.");
        TwoMinutes x = one(NEIGHBOUR, 2, 0, 0);
        for (int i = 0; i < 5; i++) {
            due("SECOND, quiet or not", x.state(0), i);
            x.seconds(1);
        }
        x.second();
        due("SECOND by draws", x.state(0), 6);
    }
}
