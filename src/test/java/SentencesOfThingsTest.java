/** Terms 3 (ROWS, ACTS, SHEETS, SHELVES), sentence by sentence. */
public final class SentencesOfThingsTest extends Sentences {
    public static void main(String[] args) throws Exception {
        runAll(SentencesOfThingsTest.class);
    }

    // ---- ROWS

    private static void rows() {
        quote("Terms 3", "ROWS of one: (1 if it SOUNDED in that SECOND, else 0, RUN, NOISE) behind 1, 2, .. n SECONDS, tried.");
        TwoMinutes x = told("neighbour at 0 beat 2;neighbour at 1 beat 3;");
        x.prove(0, 10);
        // the first one SOUNDS in SECONDS 0, 2, 4, ..; the second one in 0, 3, 6, 9
        int[][] rows = {{1, 0, 1}, {0, 1, 1}, {1, 0, 1}, {0, 0, 2}, {1, 0, 2}, {0, 1, 2}, {1, 0, 3}, {0, 1, 3}, {1, 0, 3}, {0, 0, 4}};
        for (int i = 0; i < 10; i++) {
            for (int what = 0; what < 3; what++) {
                due("ROW " + i + ", " + what, x.row(i, what), rows[i][what]);
            }
        }
        all("tried", 0, x.state(0), x.state(1), x.state(4));
        x.seconds(4);
        x.prove(1, 1);
        all("from SECOND 4 on, of the second one", 0, x.row(0, 0), x.row(0, 1));
        due("NOISE goes on from 1", x.row(0, 2), 3);
        x = full();
        x.prove(7, 10);
        changed("prove", x, "many(4)", "row(", "behind again(): many(4)");
    }

    private static void reader() {
        quote("Terms 3", "THE READER takes ROWS as those of one, from how it is now: right is one that is as it must be.");
        TwoMinutes x = told("neighbour at 0 beat 2;neighbour at 1 beat 3;neighbour at 6 beat 2;");
        x.prove(0, 3);
        due("as those of the one", x.judge(0), 0);
        due("as those of the second one: ROW 2", x.judge(1), 3);
        due("as those of the third one: NOISE of ROW 0", x.judge(2), 1);
        for (int i = 0; i < 3; i++) {
            for (int what = 0; what < 3; what++) {
                int was = x.alterRow(i, what, 7);
                due("not right: ROW " + i + ", " + what, x.judge(0), i + 1);
                x.alterRow(i, what, was - 256);
                due("not right: ROW " + i + ", " + what, x.judge(0), i + 1);
                x.alterRow(i, what, was);
                due("right again", x.judge(0), 0);
            }
        }
        x.seconds(6);
        due("from how it is now: NOISE is more", x.judge(0), 1);
        x.anew();
        due("from how it is now: SOUNDS as in SECOND 0", x.judge(0), 0);
        x.seconds(1);
        due("from how it is now", x.judge(0), 1);
        unchanged("judge", y -> y.judge(2));
    }

    // ---- ACTS

    /** One with that number, BEAT and KIND; it is on SHELF 0. */
    private static TwoMinutes thing(int kind, int number, int beat) {
        TwoMinutes x = new TwoMinutes();
        for (int i = 0; i <= number; i++) {
            x.person(kind, beat, 0, 0);
        }
        x.shelf(0, 0, number);
        return x;
    }

    private static void acts(TwoMinutes x, int act, int with, int answer, int... bodies) {
        String what = "act " + act + " with " + with;
        due(what, x.act(0, act, with), answer);
        due(what + ": how many bodies", x.many(6), bodies.length);
        for (int i = 0; i < bodies.length; i++) {
            due(what + ": body " + i, x.trace(i), bodies[i]);
        }
        due(what + ": no more bodies", x.trace(bodies.length), NONE);
    }

    private static void actsByNumber() {
        quote("Terms 3", "ACTS of things, with a number x (ints that wrap): 0 ticks, 1 rings, 2 parts, 3 waits.");
        TwoMinutes x = thing(NEIGHBOUR, 1, 3);
        acts(x, 0, 10, 61, 10);
        acts(x, 1, 10, 58, 11, 10);
        acts(x, 2, 10, 5, 12);
        acts(x, 3, 10, 58 ^ 100, 13, 11, 10);
        // 6 times 2147483647 is 12884901882, that is -6 by wrapping
        acts(x, 0, MAX, -5, 10);
        acts(x, 0, MIN, 1, 10);
        acts(x, 1, MIN, -2, 11, 10);
        x = thing(NEIGHBOUR, 1, 9);
        // -2147483646 + 1 - 9 is -2147483654, that is 2147483642 by wrapping
        acts(x, 1, -357913941, 2147483642, 11, 10);
        all("no such act", 0, x.act(0, -1, 10), x.act(0, 4, 10), x.act(0, MIN, 10), x.act(0, MAX, 10));
    }

    private static void numberAndBeat() {
        quote("Terms 3", "One of PEOPLE is held as a thing of the KIND; n: the number, a: BEAT.");
        for (int number = 0; number < 8; number++) {
            TwoMinutes x = thing(NEIGHBOUR, number, 9);
            acts(x, 0, 0, number, 10);
            acts(x, 1, 0, number - 9, 11, 10);
            x.change(number, 1, 8);
            acts(x, 1, 0, number - 8, 11, 10);
            x.mind(number, SOLDIER);
            acts(x, 0, 0, -number, 30, 10);
        }
    }

    private static void neighbourTicksAndRings() {
        quote("Terms 3", "BODIES, each with its number: neighbour: 10 ticks: x * 6 + n. 11 rings: ticks(x) - a.");
        TwoMinutes x = thing(NEIGHBOUR, 7, 9);
        acts(x, 0, -3, -11, 10);
        acts(x, 1, -3, -20, 11, 10);
    }

    private static void neighbourParts() {
        quote("Terms 3", "12 parts: x by (a - n), cut (-15 if these are the same; that is all that act() answers then).");
        TwoMinutes x = thing(NEIGHBOUR, 7, 9);
        acts(x, 2, 9, 4, 12);
        acts(x, 2, -9, -4, 12);
        acts(x, 2, 1, 0, 12);
        acts(x, 2, -1, 0, 12);
        x.change(7, 1, 8);
        acts(x, 2, MIN, MIN, 12);
        x.change(7, 1, 7);
        acts(x, 2, 9, -15, 12);
        acts(x, 2, 0, -15, 12);
        x.change(7, 1, 6);
        acts(x, 2, 9, -9, 12);
        // the one quotient that wraps
        acts(x, 2, MIN, MIN, 12);
        x.change(7, 1, 1);
        acts(x, 2, -13, 2, 12);
        // within other bodies: no more is done, nothing is added or multiplied
        acts(thing(BAKER, 4, 4), 2, 9, -15, 50, 12);
        acts(thing(SOLDIER, 4, 4), 3, 9, -15, 31, 13, 11, 30, 10, 12);
        acts(thing(OFFICER, 4, 4), 3, 9, -15, 31, 13, 41, 11, 40, 30, 10, 40, 30, 10, 12);
        acts(thing(MOTHER, 4, 4), 2, 9, -15, 61, 12);
        acts(thing(MOTHER, 4, 4), 3, 9, ((9 * 6 + 4 - 4) ^ 100) - 1, 60, 13, 11, 10);
        x = thing(COOK, 4, 4);
        acts(x, 2, 9, -15, 12);
        acts(x, 0, 9, 58, 10);
    }

    private static void neighbourWaits() {
        quote("Terms 3", "13 waits: rings(x) ^ 100.");
        acts(thing(NEIGHBOUR, 2, 3), 3, 10, 59 ^ 100, 13, 11, 10);
        acts(thing(NEIGHBOUR, 2, 3), 3, -10, -61 ^ 100, 13, 11, 10);
    }

    private static void cookRings() {
        quote("Terms 3", "cook: 20 rings: super.rings(x) * 2.");
        TwoMinutes x = thing(COOK, 2, 3);
        acts(x, 0, 10, 62, 10);
        acts(x, 1, 10, 118, 20, 11, 10);
        acts(x, 2, 10, 10, 12);
        acts(x, 3, 10, 118 ^ 100, 13, 20, 11, 10);
    }

    private static void soldierTicksAndWaits() {
        quote("Terms 3", "soldier: 30 ticks: 0 - super.ticks(x). 31 waits: super.waits(x) + parts(n).");
        TwoMinutes x = thing(SOLDIER, 6, 4);
        acts(x, 0, 10, -66, 30, 10);
        acts(x, 1, 10, -70, 11, 30, 10);
        acts(x, 2, 10, -5, 12);
        acts(x, 3, 10, (-70 ^ 100) - 3, 31, 13, 11, 30, 10, 12);
    }

    private static void officerTicksAndRings() {
        quote("Terms 3", "officer: 40 ticks: super.ticks(x) - 9. 41 rings: super.rings(x) ^ ticks(a).");
        TwoMinutes x = thing(OFFICER, 6, 4);
        acts(x, 0, 10, -75, 40, 30, 10);
        // -(10 * 6 + 6) - 9 - 4, and -(4 * 6 + 6) - 9
        acts(x, 1, 10, -79 ^ -39, 41, 11, 40, 30, 10, 40, 30, 10);
        acts(x, 2, 10, -5, 12);
        acts(x, 3, 10, (-79 ^ -39 ^ 100) - 3, 31, 13, 41, 11, 40, 30, 10, 40, 30, 10, 12);
    }

    private static void bakerPartsAndTicks() {
        quote("Terms 3", "baker: 50 parts: super.parts(x * 5) + n. 51 ticks: super.ticks(x) + a.");
        TwoMinutes x = thing(BAKER, 6, 4);
        acts(x, 0, 10, 70, 51, 10);
        acts(x, 1, 10, 132, 20, 11, 51, 10);
        acts(x, 2, 10, -19, 50, 12);
        acts(x, 3, 10, 132 ^ 100, 13, 20, 11, 51, 10);
        // 5 times 2147483647 is 2147483643 by wrapping
        acts(x, 2, MAX, -1073741821 + 6, 50, 12);
        acts(x, 2, MIN, 1073741824 + 6, 50, 12);
    }

    private static void motherWaitsAndParts() {
        quote("Terms 3", "mother: 60 waits: super.waits(x) - 1. 61 parts: super.parts(x) * ticks(n).");
        TwoMinutes x = thing(MOTHER, 6, 4);
        acts(x, 0, 10, 66, 10);
        acts(x, 1, 10, 62, 11, 10);
        acts(x, 2, 10, -5 * 42, 61, 12, 10);
        acts(x, 3, 10, (62 ^ 100) - 1, 60, 13, 11, 10);
        acts(x, 2, MAX, -1073741823 * 42, 61, 12, 10);
    }

    private static void trace() {
        quote("Terms 3", "THE TRACE: numbers of the bodies that ran in the latest act(), as they began (left first); the first 30 are kept.");
        TwoMinutes x = thing(OFFICER, 6, 4);
        due("none at first", x.many(6), 0);
        due("none at first", x.trace(0), NONE);
        // no act of any KIND runs more bodies than this one
        acts(x, 3, 1, (-25 ^ -39 ^ 100) - 3, 31, 13, 41, 11, 40, 30, 10, 40, 30, 10, 12);
        acts(x, 2, 1, 0, 12);
        due("the latest alone", x.trace(1), NONE);
        x.shelf(1, 0, 0);
        x.seconds(5);
        x.town();
        due("other calls leave it", x.trace(0), 12);
        int most = 0;
        for (int kind = 0; kind < 6; kind++) {
            TwoMinutes y = thing(kind, 6, 4);
            for (int act = 0; act < 4; act++) {
                y.act(0, act, 5);
                most = Math.max(most, y.many(6));
            }
        }
        due("the most bodies of any act", most, 11);
    }

    // ---- SHEETS and SHELVES

    private static void sheets() {
        quote("Terms 3", "SHEETS 0 to 3 are rows of bytes (sort 0), shorts (1), ints (2) or longs (3), 40 at most, or missing (at first).");
        TwoMinutes x = new TwoMinutes();
        int[] numbers = {127, 128, -128, -129, 255, 256, 32767, 32768, -32768, -32769, 65536, MAX, MIN, 0, -1};
        for (int sheet = 0; sheet < 4; sheet++) {
            due("missing at first", x.put(sheet, 0, 1), -11);
            all("missing at first", -11, x.item(sheet, 0, 0), x.item(sheet, 1, 0), x.item(sheet, 2, 0), x.item(sheet, 3, 0));
            int sort = 3 - sheet;
            due("too many", x.sheet(sheet, sort, 41), BAD);
            due("still missing", x.put(sheet, 0, 1), -11);
            due("just so many", x.sheet(sheet, sort, 40), 1);
            for (int i = 0; i < numbers.length; i++) {
                due("put", x.put(sheet, 39, numbers[i]), 1);
                due("an item of sort " + sort, x.item(sheet, sort, 39), sort == 0 ? (byte) numbers[i] : sort == 1 ? (short) numbers[i] : numbers[i]);
            }
            due("no more", x.put(sheet, 40, 1), -12);
        }
        all("no such SHEET", BAD, x.sheet(-1, 0, 1), x.sheet(4, 0, 1), x.put(-1, 0, 0), x.put(4, 0, 0), x.item(-1, 0, 0), x.item(4, 0, 0));
        due("each is another one", x.item(0, 3, 39), -1);
    }

    private static void shelvesHoldPeopleByNumber() {
        quote("Terms 3", "SHELVES 0 to 3 hold one of PEOPLE (by its number; nothing, if there is no such one at the time)");
        TwoMinutes x = one(COOK, 4, 0, 0);
        x.keep();
        x.person(SOLDIER, 3, 0, 0);
        for (int shelf = 0; shelf < 4; shelf++) {
            due("it holds the second one", x.shelf(shelf, 0, 1), 1);
            due("it holds the second one", x.taken(shelf, SOLDIER), 1);
        }
        x.mind(1, BAKER);
        due("by its number: of another KIND now", x.taken(0, SOLDIER), -13);
        due("by its number: of another KIND now", x.taken(0, BAKER), 1);
        x.again();
        all("there is no such one", -11, x.taken(0, NEIGHBOUR), x.taken(3, BAKER), x.taken(0, 10));
        due("there is no such one", x.act(0, 0, 1), 0);
        x.person(MOTHER, 2, 0, 0);
        due("there is one again", x.taken(0, MOTHER), 1);
        due("there is one again", x.act(3, 1, 0), 1 - 2);
        x.town();
        due("there is no such one", x.taken(3, MOTHER), -11);
        all("no such SHELF", BAD, x.shelf(-1, 2, 0), x.shelf(4, 2, 0), x.taken(-1, 0), x.taken(4, 0));
    }

    private static void shelvesHoldRows() {
        quote("Terms 3", "a SHEET's row, or nothing (at first).");
        TwoMinutes x = new TwoMinutes();
        for (int shelf = 0; shelf < 4; shelf++) {
            all("nothing at first", -11, x.taken(shelf, 0), x.taken(shelf, 10));
            due("nothing at first", x.act(shelf, 0, 1), 0);
        }
        x.sheet(1, 2, 0);
        x.shelf(0, 1, 1);
        due("a row of no items is not nothing", x.taken(0, 12), 0);
        x.sheet(1, 3, 40);
        due("the row that the SHEET had", x.taken(0, 12), 0);
        x.shelf(3, 1, 1);
        due("the row that the SHEET has", x.taken(3, 13), 40);
        x.sheet(1, -1, 0);
        due("the row that the SHEET had", x.taken(3, 13), 40);
        x.shelf(3, 1, 1);
        due("the SHEET is missing now", x.taken(3, 13), -11);
    }
}
