/** Promises 32 to 46 (ROWS, SHEETS, SHELVES, ACTS, what is kept), sentence by sentence. */
public final class SentencesOfThingPromisesTest extends Sentences {
    public static void main(String[] args) throws Exception {
        runAll(SentencesOfThingPromisesTest.class);
    }

    // ---- ROWS

    private static void p32() {
        quote("Promise 32", "ROWS of one by n SECONDS (1 to 10): how many.");
        for (int n = 1; n <= 10; n++) {
            TwoMinutes x = one(NEIGHBOUR, 3, 0, 0);
            due("how many", x.prove(0, n), n);
            due("how many", x.many(4), n);
            due("the last one SOUNDED or not", x.row(n - 1, 0), n % 3 == 1 ? 1 : 0);
            due("no more", x.row(n, 0), -9);
        }
        TwoMinutes x = one(NEIGHBOUR, 3, 0, 0);
        x.prove(0, 10);
        x.alterRow(0, 1, 77);
        x.prove(0, 2);
        due("the ROWS before are gone", x.many(4), 2);
        due("the ROWS before are gone", x.row(0, 1), 0);
        due("the ROWS before are gone", x.row(2, 0), -9);
    }

    private static void p32Bad() {
        quote("Promise 32", "BAD.");
        range("one", 0, 7, BAD, v -> full().prove(v, 1));
        range("n", 1, 10, BAD, v -> full().prove(7, v));
        due("nobody", new TwoMinutes().prove(0, 1), BAD);
        TwoMinutes x = full();
        x.prove(0, 11);
        due("the ROWS stay", x.many(4), 9);
    }

    private static void p33() {
        quote("Promise 33", "Of ROW i: what = 0 whether it SOUNDED, 1 RUN, 2 NOISE.");
        TwoMinutes x = told("neighbour at 0 beat 3;soldier at 1 beat 1;");
        x.prove(0, 10);
        // the soldier SOUNDS in SECONDS 0, 2, 4, 6, 8
        String sounded = "1001001001";
        int[] run = {0, 1, 0, 0, 0, 1, 0, 1, 0, 0};
        int[] noise = {1, 1, 2, 2, 3, 3, 4, 4, 5, 5};
        for (int i = 0; i < 10; i++) {
            due("SOUNDED " + i, x.row(i, 0), sounded.charAt(i) - '0');
            due("RUN " + i, x.row(i, 1), run[i]);
            due("NOISE " + i, x.row(i, 2), noise[i]);
        }
        unchanged("row", y -> y.row(8, 2));
    }

    private static void p33None() {
        quote("Promise 33", "-9: there is none such, another what.");
        TwoMinutes x = new TwoMinutes();
        all("there are none", -9, x.row(0, 0), x.row(-1, 0), x.row(0, 3), x.row(MIN, MIN));
        x.person(0, 1, 0, 0);
        for (int n = 1; n <= 10; n++) {
            x.prove(0, n);
            range("i", 0, n - 1, -9, v -> x.row(v, 2));
        }
        range("what", 0, 2, -9, v -> x.row(9, v));
        all("neither", -9, x.row(10, 3), x.row(-1, -1));
    }

    private static void p34() {
        quote("Promise 34", "It becomes v: what it was.");
        TwoMinutes x = full();
        for (int i = 0; i < 9; i++) {
            for (int what = 0; what < 3; what++) {
                int was = x.row(i, what);
                due("what it was", x.alterRow(i, what, MIN + i), was);
                due("what it was", x.alterRow(i, what, 10 * i + what), MIN + i);
            }
        }
        for (int i = 0; i < 9; i++) {
            for (int what = 0; what < 3; what++) {
                due("each is another one", x.row(i, what), 10 * i + what);
            }
        }
        changed("alterRow", x, "row(");
    }

    private static void p34None() {
        quote("Promise 34", "-9 likewise.");
        TwoMinutes x = new TwoMinutes();
        all("there are none", -9, x.alterRow(0, 0, 1), x.alterRow(-1, 0, 1), x.alterRow(0, 3, 1));
        x.person(0, 1, 0, 0);
        x.prove(0, 4);
        range("i", 0, 3, -9, v -> x.alterRow(v, 0, 1));
        range("what", 0, 2, -9, v -> x.alterRow(3, v, 1));
        x.prove(0, 4);
        x.alterRow(0, 3, 5);
        x.alterRow(3, -1, 5);
        due("nothing was altered", x.judge(0), 0);
    }

    private static void p35() {
        quote("Promise 35", "THE READER takes ROWS: 0 all is right (also if there are none); else the first ROW that isn't, and 1 more.");
        TwoMinutes x = one(NEIGHBOUR, 3, 0, 0);
        due("there are none", x.judge(0), 0);
        x.prove(0, 10);
        due("all is right", x.judge(0), 0);
        for (int i = 9; i >= 0; i--) {
            x.alterRow(i, i % 3, -1);
            due("the first that isn't, and 1 more", x.judge(0), i + 1);
        }
        x.prove(0, 1);
        due("all is right", x.judge(0), 0);
        x.alterRow(0, 2, 1);
        due("the only one", x.judge(0), 1);
        unchanged("judge", y -> y.judge(2));
    }

    private static void p35Bad() {
        quote("Promise 35", "BAD.");
        range("one", 0, 7, BAD, v -> full().judge(v));
        due("nobody, and no ROWS", new TwoMinutes().judge(0), BAD);
        TwoMinutes x = full();
        x.town();
        due("no such one, and no ROWS", x.judge(1), BAD);
    }

    // ---- SHEETS

    private static TwoMinutes eightAndBytes(int... items) {
        TwoMinutes x = new TwoMinutes();
        for (int i = 0; i < 8; i++) {
            x.person(0, 1, 3, 0);
        }
        x.sheet(0, 0, items.length);
        for (int i = 0; i < items.length; i++) {
            x.put(0, i, items[i]);
        }
        return x;
    }

    private static void p36() {
        quote("Promise 36", "n numbers (0 to 8) of a SHEET taken for bytes, from i on, become PHASE of PEOPLE from one on");
        TwoMinutes x = eightAndBytes(8, 7, 6, 5, 4, 2, 1, 0);
        due("all", x.minds(0, 0, 0, 8), 8);
        int[] all = {8, 7, 6, 5, 4, 2, 1, 0};
        for (int i = 0; i < 8; i++) {
            due("PHASE of " + i, x.of(i, 2), all[i]);
        }
        x = eightAndBytes(8, 7, 6, 5, 4, 2, 1, 0);
        due("none", x.minds(0, 0, 0, 0), 0);
        due("two", x.minds(0, 6, 6, 2), 2);
        due("one", x.minds(0, 0, 1, 1), 1);
        int[] some = {3, 8, 3, 3, 3, 3, 1, 0};
        for (int i = 0; i < 8; i++) {
            due("PHASE of " + i, x.of(i, 2), some[i]);
        }
        x = full();
        x.minds(0, 0, 7, 1);
        changed("minds with what it is already", x);
        range("n", 0, 8, BAD, v -> eightAndBytes(1, 2, 3, 4, 5, 6, 7, 8).minds(0, 0, 0, v));
    }

    private static void p36Held() {
        quote("Promise 36", "(held to 0 to 8): n.");
        TwoMinutes x = eightAndBytes(9, -1, 127, -128, 8, 0, 7, 1);
        due("n", x.minds(0, 0, 0, 8), 8);
        int[] held = {8, 0, 8, 0, 8, 0, 7, 1};
        for (int i = 0; i < 8; i++) {
            due("PHASE of " + i, x.of(i, 2), held[i]);
        }
        // 200 is -56 as a byte
        x = eightAndBytes(200);
        x.minds(0, 0, 2, 1);
        due("PHASE by 200", x.of(2, 2), 0);
    }

    private static void p36Bad() {
        quote("Promise 36", "BAD: no such SHEET, one, n, or n goes beyond the last one");
        TwoMinutes x = eightAndBytes(1, 1, 1, 1, 1, 1, 1, 1);
        for (int sheet = 1; sheet < 4; sheet++) {
            x.sheet(sheet, 0, 1);
        }
        range("SHEET", 0, 3, BAD, v -> x.minds(v, 0, 0, 1));
        range("one", 0, 7, BAD, v -> x.minds(0, 0, v, 1));
        range("one, for n 0", 0, 7, BAD, v -> x.minds(0, 0, v, 0));
        for (int one = 0; one < 8; one++) {
            int from = one;
            range("n from " + one, 0, 8 - one, BAD, v -> x.minds(0, 0, from, v));
        }
        due("nobody", new TwoMinutes().minds(0, 0, 0, 0), BAD);
        TwoMinutes two = one(0, 1, 3, 0);
        two.person(0, 1, 3, 0);
        two.sheet(0, 0, 8);
        due("beyond the last of two", two.minds(0, 0, 1, 2), BAD);
        due("none became another", two.of(1, 2), 3);
    }

    private static void p36Nothing() {
        quote("Promise 36", "-11");
        TwoMinutes x = eightAndBytes(1);
        all("missing", -11, x.minds(1, 0, 0, 0), x.minds(1, 0, 0, 1), x.minds(3, -1, 7, 1));
        all("BAD ahead of it", BAD, x.minds(1, 0, 8, 0), x.minds(1, 0, -1, 0), x.minds(1, 0, 0, -1), x.minds(1, 0, 0, 9), x.minds(1, 0, 7, 2));
    }

    private static void p36Sort() {
        quote("Promise 36", "-13");
        TwoMinutes x = eightAndBytes(1);
        for (int sort = 1; sort < 4; sort++) {
            x.sheet(sort, sort, 3);
            all("no bytes", -13, x.minds(sort, 0, 0, 1), x.minds(sort, 0, 0, 0), x.minds(sort, 9, 0, 1), x.minds(sort, -1, 0, 1));
            all("BAD ahead of it", BAD, x.minds(sort, 0, 8, 0), x.minds(sort, 0, 0, -1), x.minds(sort, 0, 7, 2));
        }
        due("PHASE", x.of(0, 2), 3);
    }

    private static void p36Outside() {
        quote("Promise 36", "-12: i is not 0 to how many items there are (also for n 0), or there are not so many.");
        TwoMinutes x = eightAndBytes(1, 2, 4);
        range("i, for n 0", 0, 3, -12, v -> x.minds(0, v, 0, 0));
        range("i, for n 1", 0, 2, -12, v -> x.minds(0, v, 0, 1));
        range("i, for n 3", 0, 0, -12, v -> x.minds(0, v, 0, 3));
        all("BAD ahead of it", BAD, x.minds(0, 4, 8, 0), x.minds(0, -1, 0, -1), x.minds(0, -1, 0, 9), x.minds(0, 3, 7, 2));
        all("not so many", -12, x.minds(0, 0, 0, 4), x.minds(0, 2, 0, 2), x.minds(0, 3, 0, 1), x.minds(0, MAX, 0, 8), x.minds(0, MIN, 0, 8));
        TwoMinutes y = eightAndBytes();
        due("of no items, none", y.minds(0, 0, 0, 0), 0);
        all("of no items", -12, y.minds(0, 0, 0, 1), y.minds(0, 1, 0, 0), y.minds(0, -1, 0, 0));
        y = eightAndBytes(1, 2, 4);
        y.minds(0, 2, 0, 2);
        due("none became another", y.of(0, 2), 3);
    }

    private static void p37() {
        quote("Promise 37", "A SHEET becomes a row of n of a sort, all 0, or missing (sort -1; n counts nothing then): 1.");
        for (int sort = 0; sort < 4; sort++) {
            TwoMinutes x = new TwoMinutes();
            for (int n = 0; n <= 40; n++) {
                due("a row", x.sheet(sort, sort, n), 1);
                due("no more than n", x.put(sort, n, 1), -12);
                if (n > 0) {
                    due("the last is 0", x.item(sort, sort, n - 1), 0);
                    due("the last", x.put(sort, n - 1, 7), 1);
                }
            }
            x.sheet(sort, sort, 40);
            for (int i = 0; i < 40; i++) {
                due("all 0", x.item(sort, sort, i), 0);
                x.put(sort, i, i + 1);
            }
            x.sheet(sort, sort, 1);
            x.sheet(sort, sort, 40);
            all("all 0 again", 0, x.item(sort, sort, 0), x.item(sort, sort, 1), x.item(sort, sort, 39));
            due("missing", x.sheet(sort, -1, 0), 1);
            due("missing", x.item(sort, sort, 0), -11);
        }
        int[] any = {-1, 41, MIN, MAX, 0, 40};
        for (int n : any) {
            TwoMinutes x = new TwoMinutes();
            x.sheet(2, 1, 3);
            due("missing, n counts nothing", x.sheet(2, -1, n), 1);
            due("missing", x.item(2, 1, 0), -11);
        }
        TwoMinutes x = full();
        x.sheet(0, 0, 4);
        changed("sheet", x, "item(0, ");
    }

    private static void p37Bad() {
        quote("Promise 37", "BAD: no such SHEET, sort, n above 40");
        range("SHEET", 0, 3, BAD, v -> new TwoMinutes().sheet(v, 0, 1));
        range("SHEET, to be missing", 0, 3, BAD, v -> new TwoMinutes().sheet(v, -1, 1));
        range("sort", -1, 3, BAD, v -> new TwoMinutes().sheet(0, v, 1));
        for (int sort = 0; sort < 4; sort++) {
            TwoMinutes x = new TwoMinutes();
            all("n", BAD, x.sheet(0, sort, 41), x.sheet(0, sort, MAX));
            due("still missing", x.item(0, sort, 0), -11);
        }
    }

    private static void p37Below() {
        quote("Promise 37", "-14.");
        for (int sort = 0; sort < 4; sort++) {
            TwoMinutes x = new TwoMinutes();
            all("n", -14, x.sheet(0, sort, -1), x.sheet(3, sort, MIN));
            all("BAD ahead of it", BAD, x.sheet(4, sort, -1), x.sheet(-1, sort, -1), x.sheet(0, 4, -1), x.sheet(0, -2, -1));
            due("still missing", x.item(0, sort, 0), -11);
        }
    }

    private static void p38() {
        quote("Promise 38", "Item i becomes v, narrowed to its sort: 1.");
        TwoMinutes x = new TwoMinutes();
        int[] numbers = {127, 128, -128, -129, 255, 256, 32767, 32768, -32768, -32769, 65535, 65536, MAX, MIN};
        int[] asBytes = {127, -128, -128, 127, -1, 0, -1, 0, 0, -1, -1, 0, -1, 0};
        int[] asShorts = {127, 128, -128, -129, 255, 256, 32767, -32768, -32768, 32767, -1, 0, -1, 0};
        for (int sort = 0; sort < 4; sort++) {
            x.sheet(sort, sort, 14);
            for (int i = 0; i < 14; i++) {
                due("put", x.put(sort, i, numbers[i]), 1);
            }
            for (int i = 0; i < 14; i++) {
                due("sort " + sort + ", " + numbers[i], x.item(sort, sort, i), sort == 0 ? asBytes[i] : sort == 1 ? asShorts[i] : numbers[i]);
            }
        }
        x = full();
        x.put(0, 1, 5);
        changed("put", x, "item(0, 0, 1)");
    }

    private static void p38Bad() {
        quote("Promise 38", "BAD: no such SHEET");
        TwoMinutes x = new TwoMinutes();
        for (int sheet = 0; sheet < 4; sheet++) {
            x.sheet(sheet, 0, 1);
        }
        range("SHEET", 0, 3, BAD, v -> x.put(v, 0, 1));
        due("ahead of -12", x.put(4, 1, 1), BAD);
    }

    private static void p38Nothing() {
        quote("Promise 38", "-11");
        TwoMinutes x = new TwoMinutes();
        all("missing", -11, x.put(0, 0, 1), x.put(3, -1, 1), x.put(3, 40, 1));
    }

    private static void p38Outside() {
        quote("Promise 38", "-12.");
        for (int n = 0; n <= 40; n += 8) {
            TwoMinutes x = new TwoMinutes();
            x.sheet(0, 2, n);
            range("i of " + n, 0, n - 1, -12, v -> x.put(0, v, 1));
        }
        TwoMinutes x = new TwoMinutes();
        x.sheet(0, 2, 40);
        x.sheet(0, 2, 3);
        all("fewer now", -12, x.put(0, 3, 1), x.put(0, 39, 1));
    }

    private static void p39() {
        quote("Promise 39", "Item i, taken for a sort (0 to 3; of longs the lowest 32 bits).");
        TwoMinutes x = new TwoMinutes();
        for (int sort = 0; sort < 4; sort++) {
            x.sheet(sort, sort, 2);
            x.put(sort, 1, -1);
            due("item 0", x.item(sort, sort, 0), 0);
            due("item 1", x.item(sort, sort, 1), -1);
        }
        int[] any = {MIN, MAX, -1, 1, 65536};
        for (int v : any) {
            x.put(3, 0, v);
            due("of longs", x.item(3, 3, 0), v);
        }
        unchanged("item", y -> y.item(0, 0, 3));
    }

    private static void p39Bad() {
        quote("Promise 39", "BAD: no such SHEET, sort");
        TwoMinutes x = new TwoMinutes();
        for (int sheet = 0; sheet < 4; sheet++) {
            x.sheet(sheet, 0, 1);
        }
        range("SHEET", 0, 3, BAD, v -> x.item(v, 0, 0));
        all("sort", BAD, x.item(0, -1, 0), x.item(0, 4, 0), x.item(0, MIN, 0), x.item(0, MAX, 0));
        x.sheet(1, -1, 0);
        all("missing, too", BAD, x.item(1, -1, 0), x.item(1, 4, 0));
        all("ahead of -12", BAD, x.item(0, 4, 1), x.item(4, 0, 1));
    }

    private static void p39Nothing() {
        quote("Promise 39", "-11");
        TwoMinutes x = new TwoMinutes();
        for (int sort = 0; sort < 4; sort++) {
            all("missing", -11, x.item(2, sort, 0), x.item(2, sort, -1), x.item(2, sort, 40));
        }
    }

    private static void p39Sort() {
        quote("Promise 39", "-13");
        for (int sort = 0; sort < 4; sort++) {
            TwoMinutes x = new TwoMinutes();
            x.sheet(0, sort, 1);
            for (int as = 0; as < 4; as++) {
                due("sort " + sort + " for " + as, x.item(0, as, 0), as == sort ? 0 : -13);
                due("sort " + sort + " for " + as + ", outside", x.item(0, as, 1), as == sort ? -12 : -13);
            }
        }
    }

    private static void p39Outside() {
        quote("Promise 39", "-12.");
        for (int n = 0; n <= 40; n += 8) {
            TwoMinutes x = new TwoMinutes();
            x.sheet(0, 1, n);
            range("i of " + n, 0, n - 1, -12, v -> x.item(0, 1, v));
        }
    }

    private static void p39AsLow() {
        quote("Promise 39", "(An item may be as low as these, too.)");
        int[] low = {-1, -2, -3, -9, -11, -12, -13, -14, -15, -100};
        for (int sort = 0; sort < 4; sort++) {
            TwoMinutes x = new TwoMinutes();
            x.sheet(0, sort, 10);
            for (int i = 0; i < 10; i++) {
                x.put(0, i, low[i]);
                due("as low", x.item(0, sort, i), low[i]);
            }
        }
    }

    // ---- SHELVES

    private static void p40() {
        quote("Promise 40", "A SHELF holds one of PEOPLE (what 0, its number n), the row of SHEET n (1; nothing, if missing), nothing (2): 1.");
        TwoMinutes x = full();
        for (int shelf = 0; shelf < 4; shelf++) {
            for (int i = 0; i < 8; i++) {
                due("one", x.shelf(shelf, 0, i), 1);
                due("one", x.taken(shelf, NEIGHBOUR), i);
            }
            int[] sizes = {4, 3, 2};
            int[] sorts = {0, 1, 3};
            for (int sheet = 0; sheet < 3; sheet++) {
                due("a row", x.shelf(shelf, 1, sheet), 1);
                due("a row", x.taken(shelf, 10 + sorts[sheet]), sizes[sheet]);
            }
            due("a missing row", x.shelf(shelf, 1, 3), 1);
            due("nothing", x.taken(shelf, 10), -11);
            x.shelf(shelf, 0, 7);
            due("nothing", x.shelf(shelf, 2, shelf == 0 ? MIN : shelf == 1 ? MAX : 9), 1);
            due("nothing", x.taken(shelf, NEIGHBOUR), -11);
        }
        x = full();
        x.shelf(1, 0, 2);
        changed("shelf", x, "taken(1, ", "behind again(): taken");
    }

    private static void p40Bad() {
        quote("Promise 40", "BAD: no such SHELF, what, thing.");
        for (int what = 0; what < 3; what++) {
            int held = what;
            range("SHELF", 0, 3, BAD, v -> full().shelf(v, held, 0));
        }
        range("what", 0, 2, BAD, v -> full().shelf(0, v, 0));
        range("one", 0, 7, BAD, v -> full().shelf(0, 0, v));
        range("SHEET", 0, 3, BAD, v -> full().shelf(0, 1, v));
        TwoMinutes x = full();
        x.shelf(0, 0, 8);
        due("as it was", x.taken(0, 0), 4);
        x.shelf(0, 1, 4);
        due("as it was", x.taken(0, 0), 4);
        due("nobody", new TwoMinutes().shelf(0, 0, 0), BAD);
    }

    private static void p41() {
        quote("Promise 41", "What a SHELF holds taken for a thing of KIND as (0 to 5, or one under it): its number");
        String[] under = {"100000", "110000", "101000", "110100", "101010", "100001"};
        TwoMinutes x = full();
        for (int kind = 0; kind < 6; kind++) {
            x.mind(7, kind);
            x.shelf(2, 0, 7);
            for (int as = 0; as < 6; as++) {
                due("KIND " + kind + " for " + as, x.taken(2, as), under[kind].charAt(as) == '1' ? 7 : -13);
            }
        }
        x.shelf(2, 0, 0);
        due("the first one's number", x.taken(2, 0), 0);
    }

    private static void p41Rows() {
        quote("Promise 41", "for a row of sort as - 10 (as 10 to 13): how many items.");
        TwoMinutes x = new TwoMinutes();
        for (int sort = 0; sort < 4; sort++) {
            for (int n = 0; n <= 40; n += 20) {
                x.sheet(sort, sort, n);
                x.shelf(sort, 1, sort);
                for (int as = 10; as < 14; as++) {
                    due("sort " + sort + " for " + as, x.taken(sort, as), as - 10 == sort ? n : -13);
                }
            }
        }
    }

    private static void p41Bad() {
        quote("Promise 41", "BAD: no such SHELF, as");
        TwoMinutes x = full();
        for (int i = 0; i < 4; i++) {
            x.shelf(i, 0, 4);
        }
        range("SHELF", 0, 3, BAD, v -> x.taken(v, 0));
        all("as", BAD, x.taken(0, -1), x.taken(0, 6), x.taken(0, 7), x.taken(0, 8), x.taken(0, 9), x.taken(0, 14), x.taken(0, MIN), x.taken(0, MAX));
        x.shelf(1, 2, 0);
        all("as, and nothing there", BAD, x.taken(1, -1), x.taken(1, 6), x.taken(1, 9), x.taken(1, 14));
    }

    private static void p41Nothing() {
        quote("Promise 41", "-11");
        TwoMinutes x = new TwoMinutes();
        for (int as = 0; as < 14; as = as == 5 ? 10 : as + 1) {
            due("nothing for " + as, x.taken(0, as), -11);
        }
    }

    private static void p41Sort() {
        quote("Promise 41", "-13.");
        TwoMinutes x = full();
        all("one for a row", -13, x.taken(0, 10), x.taken(0, 11), x.taken(0, 12), x.taken(0, 13));
        all("a row for one", -13, x.taken(1, 0), x.taken(1, 1), x.taken(1, 2), x.taken(1, 3), x.taken(1, 4), x.taken(1, 5));
        all("a row of bytes for another", -13, x.taken(1, 11), x.taken(1, 12), x.taken(1, 13));
        all("an officer for another", -13, x.taken(0, COOK), x.taken(0, BAKER), x.taken(0, MOTHER));
    }

    // ---- ACTS

    private static void p42() {
        quote("Promise 42", "An ACT (0 to 3) of the thing on a SHELF, with x.");
        TwoMinutes x = one(NEIGHBOUR, 3, 0, 0);
        for (int shelf = 0; shelf < 4; shelf++) {
            x.shelf(shelf, 0, 0);
            due("ticks", x.act(shelf, 0, 10), 60);
            due("rings", x.act(shelf, 1, 10), 57);
            due("parts", x.act(shelf, 2, 10), 3);
            due("waits", x.act(shelf, 3, 10), 57 ^ 100);
            x.shelf(shelf, 2, 0);
        }
        // nothing but THE TRACE becomes another one, also if it is parted by 0
        x = full();
        x.act(0, 1, 5);
        changed("act", x, "trace(", "many(6)", "behind town(): many(6)", "behind again(): many(6)");
        x = full();
        x.change(4, 1, 4);
        due("parted by 0", x.act(0, 2, 5), -15);
        x.change(4, 1, 5);
        changed("act", x, "trace(", "many(6)", "behind town(): many(6)", "behind again(): many(6)");
    }

    private static void p42None() {
        quote("Promise 42", "0, and no TRACE then: no such SHELF, act, nothing, a row.");
        int[][] calls = {{-1, 0}, {4, 0}, {MIN, 0}, {MAX, 0}, {0, -1}, {0, 4}, {0, MIN}, {0, MAX}, {3, 0}, {3, 3}, {1, 0}, {1, 3}, {2, 0}};
        for (int[] call : calls) {
            TwoMinutes x = full();
            due("bodies", x.many(6), 11);
            due("no such act", x.act(call[0], call[1], 5), 0);
            due("no TRACE", x.many(6), 0);
            due("no TRACE", x.trace(0), NONE);
            changed("no such act", x, "trace(", "many(6)", "behind town(): many(6)", "behind again(): many(6)");
        }
        TwoMinutes x = full();
        x.town();
        due("nobody of that number any more", x.act(0, 0, 5), 0);
        due("no TRACE", x.many(6), 0);
    }

    private static void p43() {
        quote("Promise 43", "THE TRACE's i-th body.");
        TwoMinutes x = full();
        int[] bodies = {31, 13, 41, 11, 40, 30, 10, 40, 30, 10, 12};
        for (int i = 0; i < bodies.length; i++) {
            due("body " + i, x.trace(i), bodies[i]);
        }
        x.act(0, 0, 1);
        due("body 0", x.trace(0), 40);
        due("body 2", x.trace(2), 10);
        due("no body 3", x.trace(3), NONE);
        unchanged("trace", y -> y.trace(10));
    }

    private static void p43None() {
        quote("Promise 43", "NONE.");
        TwoMinutes x = full();
        range("i", 0, 10, NONE, v -> x.trace(v));
        all("beyond 30, too", NONE, x.trace(29), x.trace(30), x.trace(31));
        TwoMinutes y = new TwoMinutes();
        all("none at first", NONE, y.trace(0), y.trace(-1), y.trace(30), y.trace(MIN), y.trace(MAX));
    }

    // ---- counts, and what is kept

    private static void p44() {
        quote("Promise 44", "How many: what = 0 PEOPLE, 1 those that SOUND in the SECOND that begins now, 2 CORNERS AT which somebody is, 3 those whose NOISE is above 0, 4 ROWS, 5 bytes of THE TAPE, 6 bodies of THE TRACE.");
        TwoMinutes x = told("neighbour at 0 beat 2;soldier at 2 beat 1;mother at 2;cook at 7 beat 4 phase 1;");
        int[] first = {4, 2, 3, 0, 0, 0, 0};
        for (int what = 0; what < 7; what++) {
            due("many(" + what + ")", x.many(what), first[what]);
        }
        x.seconds(1);
        due("none SOUNDS in SECOND 1", x.many(1), 0);
        due("the soldier and the mother heard the neighbour", x.many(3), 2);
        x.bring(0, 2);
        due("CORNERS", x.many(2), 2);
        x.seconds(2);
        due("now the neighbour heard the soldier, too", x.many(3), 3);
        x.prove(0, 10);
        due("ROWS", x.many(4), 10);
        x.feed(0, 8);
        due("bytes", x.many(5), 8);
        x.shelf(0, 0, 3);
        x.act(0, 3, 1);
        due("bodies", x.many(6), 4);
        for (int corner = 0; corner < 4; corner++) {
            x.person(NEIGHBOUR, 1, 0, corner + 8);
            x.bring(corner, corner);
        }
        due("eight", x.many(0), 8);
        due("eight CORNERS", x.many(2), 8);
        unchanged("many", y -> y.many(3));
    }

    private static void p44Bad() {
        quote("Promise 44", "BAD: another what.");
        TwoMinutes x = full();
        range("what", 0, 6, BAD, v -> x.many(v));
    }

    private static void p45() {
        quote("Promise 45", "All but THE TAPE, ROWS, SHEETS, SHELVES, THE TRACE is kept: 1.");
        TwoMinutes x = full();
        due("keep", x.keep(), 1);
        changed("keep", x, "again()", "behind again()");
        x = full();
        x.keep();
        // all that is kept becomes another, and is as it was again
        x.seconds(7);
        x.anew();
        x.seed(9);
        for (int i = 0; i < 4; i++) {
            x.set(i, 7);
        }
        for (int i = 0; i < 8; i++) {
            x.mind(i, 5 - i % 6);
            x.change(i, 1, 1 + i);
            x.change(i, 2, 8 - i);
            x.bring(i, i);
        }
        x.again();
        changed("again", x, "again()", "behind again()");
        // all that is not kept becomes another, and stays so
        x = full();
        x.keep();
        x.prove(0, 2);
        x.sheet(0, 2, 1);
        x.shelf(0, 1, 0);
        x.act(1, 0, 0);
        x.feed(' ', 1);
        x.again();
        due("ROWS", x.many(4), 2);
        due("SHEETS", x.item(0, 2, 0), 0);
        due("SHELVES", x.taken(0, 12), 1);
        due("THE TRACE", x.many(6), 0);
        due("THE TAPE", x.many(5), 198);
    }

    private static void p46() {
        quote("Promise 46", "It becomes what was kept latest (which stays): how many PEOPLE.");
        TwoMinutes x = new TwoMinutes();
        x.keep();
        x.person(COOK, 2, 1, 3);
        due("nobody", x.again(), 0);
        due("nobody", x.many(0), 0);
        x.person(COOK, 2, 1, 3);
        x.keep();
        x.person(COOK, 2, 1, 3);
        x.keep();
        for (int i = 0; i < 3; i++) {
            x.person(COOK, 2, 1, 3);
            x.seconds(2);
            x.change(0, 1, 8);
            x.seed(99);
            due("the latest, time and again", x.again(), 2);
            due("PEOPLE", x.many(0), 2);
            due("BEAT", x.of(0, 1), 2);
            due("SECOND", x.state(0), 0);
            due("z", x.seed(1), 1);
        }
        x.town();
        due("town() leaves it", x.again(), 2);
        x = full();
        due("eight are one again", x.again(), 1);
        due("no such one", x.of(1, 0), BAD);
    }

    private static void p46None() {
        quote("Promise 46", "NONE: nothing is kept.");
        TwoMinutes x = one(COOK, 2, 1, 3);
        x.seconds(3);
        due("nothing is kept", x.again(), NONE);
        due("it is as it was", x.many(0), 1);
        due("it is as it was", x.state(0), 3);
        x.keep();
        due("kept", x.again(), 1);
    }
}
