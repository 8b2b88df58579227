import java.math.BigInteger;
import java.util.ArrayList;
import java.util.Arrays;
import java.util.List;

/** A second program written anew from the document, with classes that override, exceptions and lists; by calls' names. */
final class SecondProgram {
    static class Neighbour {
        final List<Integer> trace;
        final int n;
        final int a;

        Neighbour(List<Integer> trace, int n, int a) {
            this.trace = trace;
            this.n = n;
            this.a = a;
        }

        boolean sounds(Model m, int phase) {
            return Math.floorMod(m.second + phase, a) == 0;
        }

        int reaches(Model m, int phase) {
            return 2;
        }

        int ticks(int x) {
            trace.add(10);
            return x * 6 + n;
        }

        int rings(int x) {
            trace.add(11);
            return ticks(x) - a;
        }

        int parts(int x) {
            trace.add(12);
            return x / (a - n);
        }

        int waits(int x) {
            trace.add(13);
            return rings(x) ^ 100;
        }
    }

    static class Cook extends Neighbour {
        Cook(List<Integer> trace, int n, int a) {
            super(trace, n, a);
        }

        @Override boolean sounds(Model m, int phase) {
            return super.sounds(m, phase) && m.run >= m.laws[1];
        }

        @Override int reaches(Model m, int phase) {
            return super.reaches(m, phase) + m.laws[1];
        }

        @Override int rings(int x) {
            trace.add(20);
            return super.rings(x) * 2;
        }
    }

    static class Baker extends Cook {
        Baker(List<Integer> trace, int n, int a) {
            super(trace, n, a);
        }

        @Override boolean sounds(Model m, int phase) {
            return super.sounds(m, phase) || m.second % 7 == 0;
        }

        @Override int reaches(Model m, int phase) {
            return 2 * super.reaches(m, phase);
        }

        @Override int parts(int x) {
            trace.add(50);
            return super.parts(x * 5) + n;
        }

        @Override int ticks(int x) {
            trace.add(51);
            return super.ticks(x) + a;
        }
    }

    static class Soldier extends Neighbour {
        Soldier(List<Integer> trace, int n, int a) {
            super(trace, n, a);
        }

        @Override boolean sounds(Model m, int phase) {
            return super.sounds(m, phase) && m.second % 2 == 0;
        }

        @Override int reaches(Model m, int phase) {
            return super.reaches(m, phase) - 1;
        }

        @Override int ticks(int x) {
            trace.add(30);
            return 0 - super.ticks(x);
        }

        @Override int waits(int x) {
            trace.add(31);
            return super.waits(x) + parts(n);
        }
    }

    static class Officer extends Soldier {
        Officer(List<Integer> trace, int n, int a) {
            super(trace, n, a);
        }

        @Override boolean sounds(Model m, int phase) {
            return super.sounds(m, phase) || m.run == a * 2;
        }

        @Override int reaches(Model m, int phase) {
            return super.reaches(m, phase) + phase / 3;
        }

        @Override int ticks(int x) {
            trace.add(40);
            return super.ticks(x) - 9;
        }

        @Override int rings(int x) {
            trace.add(41);
            return super.rings(x) ^ ticks(a);
        }
    }

    static class Mother extends Neighbour {
        Mother(List<Integer> trace, int n, int a) {
            super(trace, n, a);
        }

        @Override boolean sounds(Model m, int phase) {
            return m.run >= m.laws[2];
        }

        @Override int reaches(Model m, int phase) {
            return super.reaches(m, phase) * 3;
        }

        @Override int waits(int x) {
            trace.add(60);
            return super.waits(x) - 1;
        }

        @Override int parts(int x) {
            trace.add(61);
            return super.parts(x) * ticks(n);
        }
    }

    static final class Fault extends RuntimeException {
        private static final long serialVersionUID = 1;
        final int place;

        Fault(int place) {
            this.place = place;
        }
    }

    /** All that is kept. A person is {kind, beat, phase, corner, noise}. */
    static final class Model {
        int[] laws = {12, 1, 6, 20};
        List<int[]> people = new ArrayList<>();
        int second, run, longest, done, z = 1;

        Model copy() {
            Model m = new Model();
            m.laws = laws.clone();
            for (int[] p : people) {
                m.people.add(p.clone());
            }
            m.second = second;
            m.run = run;
            m.longest = longest;
            m.done = done;
            m.z = z;
            return m;
        }

        Neighbour thing(int who, List<Integer> trace) {
            int a = people.get(who)[1];
            switch (people.get(who)[0]) {
                case 0: return new Neighbour(trace, who, a);
                case 1: return new Cook(trace, who, a);
                case 2: return new Soldier(trace, who, a);
                case 3: return new Baker(trace, who, a);
                case 4: return new Officer(trace, who, a);
                default: return new Mother(trace, who, a);
            }
        }

        boolean sounds(int who) {
            return thing(who, null).sounds(this, people.get(who)[2]);
        }

        int reaches(int who) {
            return thing(who, null).reaches(this, people.get(who)[2]);
        }

        boolean heard(int who, int corner) {
            int right = Math.floorMod(corner - people.get(who)[3], 12);
            int left = Math.floorMod(people.get(who)[3] - corner, 12);
            return right <= reaches(who) || left <= reaches(who);
        }

        int sounding() {
            int set = 0;
            for (int i = 0; i < people.size(); i++) {
                set += sounds(i) ? 1 << i : 0;
            }
            return set;
        }

        int go(int forced, int away) {
            int set = (sounding() | forced) & ~away;
            for (int i = 0; i < people.size(); i++) {
                for (int j = 0; j < people.size(); j++) {
                    if (i != j && (set & 1 << j) != 0 && heard(j, people.get(i)[3]) && people.get(i)[4] < 9999) {
                        people.get(i)[4]++;
                    }
                }
            }
            if (set != 0) {
                run = 0;
            } else {
                run = run == 9999 ? 9999 : run + 1;
                longest = Math.max(run, longest);
                done = run >= laws[0] ? 1 : done;
            }
            second++;
            return set;
        }

        int draw() {
            z = z * 1103515245 + 12345;
            return z >>> 16;
        }

        void goByDraws() {
            int forced = 0;
            if (!people.isEmpty()) {
                int one = draw() % people.size();
                int coughs = draw() % 100;
                forced = coughs < laws[3] ? 1 << one : 0;
            }
            go(forced, 0);
        }

        int length(int n, int away) {
            Model m = copy();
            int most = 0;
            for (int i = 0; i < n; i++) {
                m.go(0, away);
                most = Math.max(most, m.run);
            }
            return most;
        }
    }

    /** Reads a TEXT by words with places; throws a Fault. */
    static final class Reader {
        final String text;
        final List<String> words = new ArrayList<>();
        final List<Integer> places = new ArrayList<>();
        int next;
        static final List<String> KINDS = Arrays.asList("neighbour", "cook", "soldier", "baker", "officer", "mother");
        static final List<String> LAWS = Arrays.asList("goal", "loud", "watch", "cough");
        static final int[][] RANGES = {{1, 99}, {0, 9}, {0, 99}, {0, 99}};

        Reader(String text) {
            this.text = text;
            java.util.regex.Matcher m = java.util.regex.Pattern.compile("[a-z]+|[0-9]+|[^ ]", java.util.regex.Pattern.DOTALL).matcher(text);
            while (m.find()) {
                words.add(m.group());
                places.add(m.start());
            }
        }

        String peek() {
            return next < words.size() ? words.get(next) : "";
        }

        Fault fault() {
            return new Fault(next < places.size() ? places.get(next) : text.length());
        }

        void want(String word) {
            if (!peek().equals(word)) {
                throw fault();
            }
            next++;
        }

        int number(int least, int most) {
            String w = peek();
            if (!w.matches("[0-9]{1,3}") || Integer.parseInt(w) < least || Integer.parseInt(w) > most) {
                throw fault();
            }
            next++;
            return Integer.parseInt(w);
        }

        Model read(int z) {
            Model m = new Model();
            m.z = z;
            while (next < words.size()) {
                int kind = KINDS.indexOf(peek());
                int law = LAWS.indexOf(peek());
                if (kind < 0 && law < 0 || kind >= 0 && m.people.size() == 8) {
                    throw fault();
                }
                next++;
                if (kind >= 0) {
                    want("at");
                    int corner = number(0, 11);
                    int beat = 5;
                    int phase = 0;
                    if (peek().equals("beat")) {
                        next++;
                        beat = number(1, 9);
                    }
                    if (peek().equals("phase")) {
                        next++;
                        phase = number(0, 8);
                    }
                    want(";");
                    m.people.add(new int[] {kind, beat, phase, corner, 0});
                } else {
                    m.laws[law] = number(RANGES[law][0], RANGES[law][1]);
                    want(";");
                }
            }
            return m;
        }
    }

    Model now = new Model();
    Model keptTown;
    StringBuilder tape = new StringBuilder();
    List<int[]> rows = new ArrayList<>();
    Object[] sheets = new Object[4];
    Object[] shelves = new Object[4];
    List<Integer> trace = new ArrayList<>();

    boolean in(int v, int least, int most) {
        return least <= v && v <= most;
    }

    boolean one(int who) {
        return in(who, 0, now.people.size() - 1);
    }

    int bestOf(int who, int field, int least, int most, int n) {
        int best = -1;
        int with = 0;
        for (int v = most; v >= least; v--) {
            Model m = now.copy();
            m.people.get(who)[field] = v;
            if (m.length(n, 0) >= best) {
                best = m.length(n, 0);
                with = v;
            }
        }
        return with;
    }

    int heardIn(int corner, int n) {
        Model m = now.copy();
        int in = 0;
        for (int i = 0; i < n; i++) {
            boolean any = false;
            for (int j = 0; j < m.people.size(); j++) {
                any |= m.sounds(j) && m.heard(j, corner);
            }
            in += any ? 1 : 0;
            m.go(0, 0);
        }
        return in;
    }

    List<int[]> rowsOf(int who, int n) {
        List<int[]> made = new ArrayList<>();
        Model m = now.copy();
        for (int i = 0; i < n; i++) {
            int set = m.go(0, 0);
            made.add(new int[] {set >> who & 1, m.run, m.people.get(who)[4]});
        }
        return made;
    }

    static long item(Object row, int i) {
        return row instanceof byte[] ? ((byte[]) row)[i] : row instanceof short[] ? ((short[]) row)[i]
                : row instanceof int[] ? ((int[]) row)[i] : ((long[]) row)[i];
    }

    static int sortOf(Object row) {
        return row instanceof byte[] ? 0 : row instanceof short[] ? 1 : row instanceof int[] ? 2 : 3;
    }

    static int sizeOf(Object row) {
        return java.lang.reflect.Array.getLength(row);
    }

    /** What a shelf holds: a Neighbour, a row, or null. */
    Object held(int shelf) {
        if (shelves[shelf] instanceof Integer) {
            int who = (Integer) shelves[shelf];
            return one(who) ? now.thing(who, trace) : null;
        }
        return shelves[shelf];
    }

    static long fraction(BigInteger above, BigInteger below, int part) {
        BigInteger g = above.gcd(below);
        return (part == 0 ? above : below).divide(g).longValueExact();
    }

    static final Class<?>[] CLASSES = {Neighbour.class, Cook.class, Soldier.class, Baker.class, Officer.class, Mother.class};

    long answer(String name, long[] args) {
        int p = args.length > 0 ? (int) args[0] : 0;
        int q = args.length > 1 ? (int) args[1] : 0;
        int r = args.length > 2 ? (int) args[2] : 0;
        int s = args.length > 3 ? (int) args[3] : 0;
        switch (name) {
            case "feed":
                if (q < 1 || q > 8) return -1;
                if (tape.length() + q > 200) return -2;
                for (int i = 0; i < q; i++) tape.append((char) (args[0] >> 8 * i & 255));
                return tape.length();
            case "town": {
                String text = tape.toString();
                tape.setLength(0);
                try {
                    now = new Reader(text).read(now.z);
                } catch (Fault f) {
                    return -100 - f.place;
                }
                rows.clear();
                return now.people.size();
            }
            case "set": {
                if (!in(p, 0, 3) || !in(q, Reader.RANGES[p][0], Reader.RANGES[p][1])) return -1;
                int was = now.laws[p];
                now.laws[p] = q;
                return was;
            }
            case "lawOf": return in(p, 0, 3) ? now.laws[p] : -1;
            case "person":
                if (!in(p, 0, 5) || !in(q, 1, 9) || !in(r, 0, 8) || !in(s, 0, 11)) return -1;
                if (now.people.size() == 8) return -2;
                now.people.add(new int[] {p, q, r, s, 0});
                return now.people.size() - 1;
            case "of":
                if (!one(p) || !in(q, 0, 6)) return -1;
                return q < 5 ? now.people.get(p)[q] : q == 5 ? (now.sounds(p) ? 1 : 0) : now.reaches(p);
            case "mind": {
                if (!one(p) || !in(q, 0, 5)) return -1;
                int was = now.people.get(p)[0];
                now.people.get(p)[0] = q;
                return was;
            }
            case "change": {
                if (!one(p) || !in(q, 1, 2) || !in(r, 2 - q, 10 - q)) return -1;
                int was = now.people.get(p)[q];
                now.people.get(p)[q] = r;
                return was;
            }
            case "bring": {
                if (!one(p) || !in(q, 0, 11)) return -1;
                int was = now.people.get(p)[3];
                now.people.get(p)[3] = q;
                return was;
            }
            case "corner": {
                if (!in(p, 0, 11) || !in(q, 0, 1)) return -1;
                int set = 0;
                for (int i = 0; i < now.people.size(); i++) {
                    if (q == 0 ? now.people.get(i)[3] == p : now.sounds(i) && now.heard(i, p)) set |= 1 << i;
                }
                return set;
            }
            case "seconds":
                if (!in(p, 1, 60)) return -1;
                for (int i = 0; i < p; i++) now.go(0, 0);
                return now.run;
            case "seed": {
                int was = now.z;
                now.z = p;
                return was;
            }
            case "second": now.goByDraws(); return now.run;
            case "spoilt": {
                if (!in(p, 1, 30)) return -1;
                Model plain = now.copy();
                plain.go(0, 0);
                int z = now.z;
                int less = 0;
                for (int i = 0; i < p; i++) {
                    Model m = now.copy();
                    m.z = z;
                    m.goByDraws();
                    z = m.z;
                    less += m.run < plain.run ? 1 : 0;
                }
                return less;
            }
            case "state": {
                int all = 0;
                for (int[] one : now.people) all += one[4];
                return in(p, 0, 5) ? new int[] {now.second, now.run, now.longest, now.done, all, now.sounding()}[p] : -1;
            }
            case "anew": {
                int was = now.run;
                now.run = now.longest = now.done = 0;
                for (int[] one : now.people) one[4] = 0;
                return was;
            }
            default: return triedAnswer(name, p, q, r, s);
        }
    }

    long triedAnswer(String name, int p, int q, int r, int s) {
        Model m = now.copy();
        switch (name) {
            case "lasts":
                if (!in(p, 0, 60)) return -1;
                for (int i = 0; i < p; i++) m.go(0, 0);
                return m.run;
            case "length": return in(p, 1, 60) ? m.length(p, 0) : -1;
            case "kept":
                for (int i = 0; i <= 60; i++) {
                    if (m.done == 1) return i;
                    m.go(0, 0);
                }
                return -3;
            case "broken":
                if (!in(p, 0, 1)) return -1;
                for (int i = 1; i <= 60; i++) {
                    int set = m.go(0, 0);
                    if (m.run == 0) {
                        int least = 0;
                        while ((set >> least & 1) == 0) least++;
                        return p == 0 ? i : least;
                    }
                }
                return -3;
            case "phaseFor": return one(p) && in(q, 1, 60) ? bestOf(p, 2, 0, 8, q) : -1;
            case "beatFor": return one(p) && in(q, 1, 60) ? bestOf(p, 1, 1, 9, q) : -1;
            case "kindFor": return one(p) && in(q, 1, 60) ? bestOf(p, 0, 0, 5, q) : -1;
            case "pairFor": {
                if (!one(p) || !one(q) || p == q || !in(r, 1, 30)) return -1;
                int best = -1;
                int with = 0;
                for (int code = 88; code >= 0; code--) {
                    if (code % 10 == 9) continue;
                    m.people.get(p)[2] = code / 10;
                    m.people.get(q)[2] = code % 10;
                    int length = m.length(r, 0);
                    if (length >= best) {
                        best = length;
                        with = code;
                    }
                }
                return with;
            }
            case "awayFor": {
                if (!in(p, 1, 30) || !in(q, 0, 99)) return -1;
                int found = -3;
                for (int set = (1 << now.people.size()) - 1; set >= 0; set--) {
                    boolean fewer = found < 0 || Integer.bitCount(set) <= Integer.bitCount(found);
                    if (fewer && m.length(p, set) >= q) found = set;
                }
                return found;
            }
            case "heard": return in(p, 0, 11) && in(q, 1, 60) ? heardIn(p, q) : -1;
            case "calm": {
                if (!in(p, 1, 60)) return -1;
                int calm = 11;
                for (int c = 10; c >= 0; c--) if (heardIn(c, p) <= heardIn(calm, p)) calm = c;
                return calm;
            }
            case "fits": {
                if (!in(p, 0, 3) || !one(q) || !in(r, 0, 1)) return -1;
                if (sheets[p] == null) return -11;
                List<Integer> fit = new ArrayList<>();
                for (int phase = 0; phase < 9; phase++) {
                    Model t = now.copy();
                    t.people.get(q)[2] = phase;
                    boolean right = true;
                    for (int i = 0; i < sizeOf(sheets[p]); i++) {
                        t.go(0, 0);
                        right &= item(sheets[p], i) == -1 || item(sheets[p], i) == t.run;
                    }
                    if (right) fit.add(phase);
                }
                return r == 0 ? fit.size() : fit.isEmpty() ? -3 : fit.get(0);
            }
            case "odds": {
                if (!in(p, 0, 8) || !in(q, 0, p) || !in(r, 0, 1)) return -1;
                BigInteger above = BigInteger.ZERO;
                // by all 2^n evenings, told one by one
                for (int set = 0; set < 1 << p; set++) {
                    if (Integer.bitCount(set) != q) continue;
                    above = above.add(BigInteger.valueOf(now.laws[3]).pow(q).multiply(BigInteger.valueOf(100 - now.laws[3]).pow(p - q)));
                }
                return fraction(above, BigInteger.valueOf(100).pow(p), r);
            }
            case "hope": return in(p, 0, 99) && in(q, 0, 1) ? fraction(BigInteger.valueOf(p * now.laws[3]), BigInteger.valueOf(100), q) : -1;
            default: return laterAnswer(name, p, q, r, s);
        }
    }

    long laterAnswer(String name, int p, int q, int r, int s) {
        switch (name) {
            case "prove":
                if (!one(p) || !in(q, 1, 10)) return -1;
                rows = rowsOf(p, q);
                return rows.size();
            case "row": return in(p, 0, rows.size() - 1) && in(q, 0, 2) ? rows.get(p)[q] : -9;
            case "alterRow": {
                if (!in(p, 0, rows.size() - 1) || !in(q, 0, 2)) return -9;
                int was = rows.get(p)[q];
                rows.get(p)[q] = r;
                return was;
            }
            case "judge": {
                if (!one(p)) return -1;
                List<int[]> due = rowsOf(p, rows.size());
                for (int i = 0; i < due.size(); i++) if (!Arrays.equals(due.get(i), rows.get(i))) return i + 1;
                return 0;
            }
            case "minds": {
                if (!in(p, 0, 3) || !one(r) || !in(s, 0, 8) || r + s > now.people.size()) return -1;
                if (sheets[p] == null) return -11;
                if (!(sheets[p] instanceof byte[])) return -13;
                byte[] row = (byte[]) sheets[p];
                if (q < 0 || q > row.length || s > row.length - q) return -12;
                for (int i = 0; i < s; i++) now.people.get(r + i)[2] = row[q + i] < 0 ? 0 : row[q + i] > 8 ? 8 : row[q + i];
                return s;
            }
            case "sheet":
                if (!in(p, 0, 3) || !in(q, -1, 3) || q >= 0 && r > 40) return -1;
                if (q >= 0 && r < 0) return -14;
                sheets[p] = q == -1 ? null : q == 0 ? new byte[r] : q == 1 ? new short[r] : q == 2 ? new int[r] : (Object) new long[r];
                return 1;
            case "put":
                if (!in(p, 0, 3)) return -1;
                if (sheets[p] == null) return -11;
                if (!in(q, 0, sizeOf(sheets[p]) - 1)) return -12;
                switch (sortOf(sheets[p])) {
                    case 0: ((byte[]) sheets[p])[q] = (byte) r; break;
                    case 1: ((short[]) sheets[p])[q] = (short) r; break;
                    case 2: ((int[]) sheets[p])[q] = r; break;
                    default: ((long[]) sheets[p])[q] = r; break;
                }
                return 1;
            case "item":
                if (!in(p, 0, 3) || !in(q, 0, 3)) return -1;
                if (sheets[p] == null) return -11;
                if (sortOf(sheets[p]) != q) return -13;
                return in(r, 0, sizeOf(sheets[p]) - 1) ? (int) item(sheets[p], r) : -12;
            case "shelf":
                if (!in(p, 0, 3) || !in(q, 0, 2) || q == 0 && !one(r) || q == 1 && !in(r, 0, 3)) return -1;
                shelves[p] = q == 0 ? (Object) r : q == 1 ? sheets[r] : null;
                return 1;
            case "taken": {
                if (!in(p, 0, 3) || !in(q, 0, 5) && !in(q, 10, 13)) return -1;
                Object thing = held(p);
                if (thing == null) return -11;
                if (q < 10) return CLASSES[q].isInstance(thing) ? ((Neighbour) thing).n : -13;
                return thing instanceof Neighbour || sortOf(thing) != q - 10 ? -13 : sizeOf(thing);
            }
            case "act": {
                trace.clear();
                if (!in(p, 0, 3) || !in(q, 0, 3) || !(held(p) instanceof Neighbour)) return 0;
                Neighbour thing = (Neighbour) held(p);
                try {
                    return q == 0 ? thing.ticks(r) : q == 1 ? thing.rings(r) : q == 2 ? thing.parts(r) : thing.waits(r);
                } catch (ArithmeticException byZero) {
                    return -15;
                }
            }
            case "trace": return in(p, 0, Math.min(30, trace.size()) - 1) ? trace.get(p) : -3;
            case "many": {
                long corners = now.people.stream().map(one -> one[3]).distinct().count();
                long loud = now.people.stream().filter(one -> one[4] > 0).count();
                return in(p, 0, 6) ? new long[] {now.people.size(), Integer.bitCount(now.sounding()), corners, loud,
                    rows.size(), tape.length(), Math.min(30, trace.size())}[p] : -1;
            }
            case "keep": keptTown = now.copy(); return 1;
            case "again":
                if (keptTown == null) return -3;
                now = keptTown.copy();
                return now.people.size();
            default: throw new IllegalStateException(name);
        }
    }
}
