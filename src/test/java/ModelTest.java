import java.util.ArrayList;
import java.util.HashMap;
import java.util.HashSet;
import java.util.List;
import java.util.Map;
import java.util.Set;
import java.util.TreeSet;

/** Random runs of calls on ConfigSearch and on a slow model that is written from the document anew. */
public final class ModelTest {
    private static final int ROUND = 1, WIDE = 2;
    private static int wrong = 0;
    private static long seed = 20261116L;
    private static final Map<String, Integer> SEEN = new HashMap<>();

    /** Below bound; a sequence of its own, so that each run of the test is the same. */
    private static int pick(int bound) {
        seed = seed * 6364136223846793005L + 1442695040888963407L;
        return (int) ((seed >>> 33) % bound);
    }

    /** A number from low to high, seldom one just outside. */
    private static int near(int low, int high) {
        int n = pick(12);
        return n == 0 ? low - 1 : n == 1 ? high + 1 : low + pick(Math.max(1, high - low + 1));
    }

    public static void main(String[] args) {
        for (int run = 0; run < 90 && wrong == 0; run++) {
            playRun(run);
        }
        need("deduce 0"); need("deduce 1"); need("deduce 2");
        need("realise 0"); need("realise 1"); need("realise 2");
        need("check 0"); need("check 1"); need("proof 0"); need("proof 1");
        need("meet throws"); need("pivot throws"); need("row 1"); need("row 0");
        System.out.println(wrong == 0 ? "all answers are as the model's" : wrong + " answers are not");
        if (wrong != 0) {
            System.exit(1);
        }
    }

    private static void need(String what) {
        if (wrong == 0 && !SEEN.containsKey(what)) {
            wrong++;
            System.out.println("the runs never came to: " + what);
        }
    }

    private static void playRun(int run) {
        ConfigSearch real = new ConfigSearch();
        Model model = new Model();
        StringBuilder said = new StringBuilder();
        int sort = pick(3);
        while (model.calls < 480 && wrong == 0) {
            step(run, real, model, said, sort);
        }
    }

    private static void step(int run, ConfigSearch real, Model model, StringBuilder said, int sort) {
        int n = model.names.size();
        int what = pick(26);
        if (model.calls == 0 || pick(90) == 0) {
            String text = sort == WIDE ? "abcde afghi bfj" : someText(sort == ROUND);
            for (char c : text.toCharArray()) {
                same(run, said, model, "sign(" + (int) c + ")", real.sign(c), model.sign(c));
            }
            same(run, said, model, "read()", real.read(), model.read());
            if (sort == ROUND) {
                orientRound(run, real, model, said);
            } else if (sort == WIDE) {
                orientWide(run, real, model, said);
            }
            return;
        }
        int a = near(0, n - 1), b = near(0, n - 1), c = near(0, n - 1), v = near(-1, 1);
        int l = near(0, model.words.size() - 1), m = near(0, model.words.size() - 1);
        switch (what) {
            case 0: { int x = near(0, 255); same(run, said, model, "sign(" + x + ")", real.sign(x), model.sign(x)); break; }
            case 1: { if (pick(9) == 0) { same(run, said, model, "read()", real.read(), model.read()); } break; }
            case 2: { int x = near(0, 7); same(run, said, model, "count(" + x + ")", real.count(x), model.count(x)); break; }
            case 3: { int i = near(0, 5); boolean t = pick(2) == 0; same(run, said, model, "line(" + l + "," + i + "," + t + ")", real.line(l, i, t), model.line(l, i, t)); break; }
            case 4: case 5: same(run, said, model, "bar(" + a + "," + b + "," + c + ")", real.bar(a, b, c), model.bar(a, b, c)); break;
            case 6: case 7: same(run, said, model, "orient(" + a + "," + b + "," + c + "," + v + ")", real.orient(a, b, c, v), model.orient(a, b, c, v)); break;
            case 8: case 9: { int[] fields = {0, 2, 3, 5, 7, 11, 13, 4, 1, -3}; int f = fields[pick(10)];
                int[] limits = {1, 40, 700, 3000, 20000, 20001, 0, 1 + pick(3000)}; int s = limits[pick(8)];
                same(run, said, model, "realise(" + f + "," + s + ")", real.realise(f, s), model.realise(f, s));
                same(run, said, model, "count(5)", real.count(5), model.count(5)); break; }
            case 10: { int i = near(0, 3); same(run, said, model, "coordinate(" + a + "," + i + ")", real.coordinate(a, i), model.coordinate(a, i)); break; }
            case 11: same(run, said, model, "check()", real.check(), model.check()); break;
            case 12: same(run, said, model, "meet(" + l + "," + m + ")", meet(real, l, m), model.meeting(l, m, -99)); break;
            case 13: same(run, said, model, "meets(" + l + "," + m + ")", real.meets(l, m), model.meeting(l, m, -4)); break;
            case 14: { int p = near(2, 13), x = pick(2) == 0 ? pick(60) - 30 : (int) (seed >> 7), y = pick(2) == 0 ? pick(60) - 30 : (int) (seed >> 9);
                same(run, said, model, "pivot(" + p + "," + x + "," + y + ")", pivot(real, p, x, y), model.pivot(p, x, y)); break; }
            case 15: case 16: same(run, said, model, "deduce()", real.deduce(), model.deduce()); break;
            case 17: case 18: { int i = near(0, model.rows.size() - 1), w = near(0, 9); same(run, said, model, "row(" + i + "," + w + ")", real.row(i, w), model.row(i, w)); break; }
            case 19: { if (pick(4) == 0) { int i = near(0, model.rows.size() - 1); same(run, said, model, "plant(" + i + "," + v + ")", real.plant(i, v), model.plant(i, v)); } break; }
            case 20: same(run, said, model, "proof()", real.proof(), model.proof()); break;
            case 21: same(run, said, model, "known(" + a + "," + b + "," + c + ")", real.known(a, b, c), model.known(a, b, c)); break;
            case 22: { int i = near(0, 2), s = near(0, 2); same(run, said, model, "certificate(" + i + "," + s + ")", real.certificate(i, s), model.certificate(i, s)); break; }
            case 23: { int x = near(3, 6), y = near(0, 4); same(run, said, model, "kinds(" + x + "," + y + ")", real.kinds(x, y), model.kinds(x, y)); break; }
            case 24: { int i = near(0, model.words.size() - 1); same(run, said, model, "canonical(" + i + ")", real.canonical(i), model.canonical(i)); break; }
            default: { int i = near(0, 13); same(run, said, model, "orbit(" + i + ")", real.orbit(i), model.orbit(i)); }
        }
    }

    /** TRIPLES of points on a round, told all alike: much follows from them. */
    private static void orientRound(int run, ConfigSearch real, Model model, StringBuilder said) {
        int n = model.names.size();
        int step = 1 + pick(3);
        for (int a = 0; a < n; a++) {
            for (int c = a + 2; c < n; c += step) {
                same(run, said, model, "orient(" + a + "," + (a + 1) + "," + c + ",1)", real.orient(a, a + 1, c, 1), model.orient(a, a + 1, c, 1));
            }
        }
    }

    /** TRIPLES of two lines that cross, some turned: up to 60 ROWS follow from them. */
    private static void orientWide(int run, ConfigSearch real, Model model, StringBuilder said) {
        int[] x = {0, 2, 4, 6, 8, 0, 0, 0, 0, 1};
        int[] y = {0, 0, 0, 0, 0, 2, 4, 6, 8, 1};
        int told = 12 + pick(12);
        for (int i = 0; i < told; i++) {
            int a = pick(10), b = pick(10), c = pick(10);
            int turn = (x[b] - x[a]) * (y[c] - y[a]) - (y[b] - y[a]) * (x[c] - x[a]);
            int s = pick(25) == 0 ? Integer.signum(-turn) : Integer.signum(turn);
            same(run, said, model, "orient(" + a + "," + b + "," + c + "," + s + ")", real.orient(a, b, c, s), model.orient(a, b, c, s));
        }
    }

    private static String someText(boolean round) {
        String letters = round && pick(3) > 0 ? "abcdefghij" : shuffled("abcdefghij").substring(0, 3 + pick(8));
        StringBuilder text = new StringBuilder();
        List<String> words = new ArrayList<>();
        int tries = round ? 3 + pick(4) : 1 + pick(60);
        for (int i = 0; i < tries && words.size() < 13; i++) {
            String word = shuffled(letters).substring(0, Math.min(letters.length(), 3 + Math.max(0, pick(6) - 3)));
            boolean fits = true;
            for (String other : words) {
                int common = 0;
                for (char c : word.toCharArray()) {
                    common += other.indexOf(c) >= 0 ? 1 : 0;
                }
                fits &= common < 2;
            }
            if (fits || pick(60) == 0) {
                words.add(word);
            }
        }
        if (round && pick(2) == 0) {
            words.add(0, "abc");
            words.add(1, "defgh".substring(0, 3 + pick(3)));
            words.add(2, "hij");
        }
        for (String word : words) {
            text.append(" ".repeat(pick(8) == 0 ? 2 : text.length() == 0 ? 0 : 1)).append(word);
        }
        if (pick(12) == 0 && text.length() > 0) {
            text.setCharAt(pick(text.length()), "abcdefghijk AZ`\u00e4".charAt(pick(16)));
        }
        return text.append(" ".repeat(pick(8) == 0 ? 3 : 0)).toString();
    }

    private static String shuffled(String letters) {
        char[] row = letters.toCharArray();
        for (int i = row.length - 1; i > 0; i--) {
            int j = pick(i + 1);
            char kept = row[i];
            row[i] = row[j];
            row[j] = kept;
        }
        return new String(row);
    }

    private static int meet(ConfigSearch real, int line, int other) {
        try {
            return real.meet(line, other);
        } catch (ArithmeticException e) {
            SEEN.put("meet throws", 1);
            return -99;
        }
    }

    private static int pivot(ConfigSearch real, int p, int v, int d) {
        try {
            return real.pivot(p, v, d);
        } catch (ArithmeticException e) {
            SEEN.put("pivot throws", 1);
            return -99;
        }
    }

    private static void same(int run, StringBuilder said, Model model, String call, int got, int due) {
        model.calls++;
        said.append(call).append(' ');
        SEEN.merge(call.substring(0, call.indexOf('(')) + " " + got, 1, Integer::sum);
        if (got != due) {
            wrong++;
            System.out.println("run " + run + ": " + said);
            System.out.println(call + " answered " + got + ", the model " + due);
        }
    }

    /** The document, word by word, with no thought of speed. */
    private static final class Model {
        int calls = 0;
        final StringBuilder tape = new StringBuilder();
        List<Character> names = new ArrayList<>();
        List<String> words = new ArrayList<>();
        final Set<Set<Integer>> barred = new HashSet<>();
        /** Each as a, b, c, SIGN. */
        final List<int[]> oriented = new ArrayList<>();
        int[] picture = null;
        int field = 0;
        int steps = 0;
        /** Each as kind, a to e, three POINTS, SIGN. */
        final List<int[]> rows = new ArrayList<>();
        int latest = -4;
        private Map<Integer, Integer> keep = null;
        private List<Integer> least = null;

        int sign(int c) {
            if (c < 0 || c > 255) return -9;
            if (tape.length() == 80) return -3;
            tape.append((char) c);
            return tape.length();
        }

        int read() {
            String text = tape.toString();
            tape.setLength(0);
            int end = text.length();
            for (int i = 0; i < end; i++) {
                if (faulty(text, i)) return -10 - i;
            }
            String[] parts = text.trim().split(" +");
            if (text.trim().isEmpty() || parts[parts.length - 1].length() < 3 && !text.endsWith(" ")) return -10 - end;
            words = List.of(parts);
            names = new ArrayList<>();
            int letters = 0;
            for (char c : text.toCharArray()) {
                if (c != ' ' && !names.contains(c)) names.add(c);
                if (c != ' ') letters++;
            }
            barred.clear(); oriented.clear(); picture = null; rows.clear(); steps = 0; latest = -4; keep = null;
            return letters;
        }

        /** Whether the byte at i is THE FAULT, none ahead of it being one. */
        private boolean faulty(String text, int i) {
            char c = text.charAt(i);
            String head = text.substring(0, i);
            String[] done = head.trim().isEmpty() ? new String[0] : head.trim().split(" +");
            boolean open = i > 0 && head.charAt(i - 1) != ' ';
            String word = open ? done[done.length - 1] : "";
            if (c == ' ') return open && word.length() < 3;
            if (c < 'a' || c > 'j' || word.indexOf(c) >= 0 || word.length() == 5) return true;
            int ahead = open ? done.length - 1 : done.length;
            if (ahead == 12) return true;
            for (int k = 0; k < ahead; k++) {
                int common = done[k].indexOf(c) >= 0 ? 1 : 0;
                for (char d : word.toCharArray()) common += done[k].indexOf(d) >= 0 ? 1 : 0;
                if (common >= 2) return true;
            }
            return false;
        }

        int count(int what) {
            int[] all = {names.size(), words.size(), barred.size(), oriented.size(), rows.size(), steps, tape.length(), latest};
            return what < 0 || what > 7 ? -9 : all[what];
        }

        private boolean isLine(int l) { return l >= 0 && l < words.size(); }
        private boolean isPoint(int p) { return p >= 0 && p < names.size(); }
        private boolean isTriple(int a, int b, int c) { return isPoint(a) && isPoint(b) && isPoint(c) && Set.copyOf(List.of(a, b, c)).size() == 3; }

        private boolean flat(int a, int b, int c) {
            for (String w : words) {
                if (w.indexOf(names.get(a)) >= 0 && w.indexOf(names.get(b)) >= 0 && w.indexOf(names.get(c)) >= 0) return true;
            }
            return false;
        }

        int line(int l, int i, boolean letter) {
            if (!isLine(l) || i < 0) return -9;
            if (i >= words.get(l).length()) return -4;
            char c = words.get(l).charAt(i);
            return letter ? c : names.indexOf(c);
        }

        int bar(int a, int b, int c) {
            if (!isTriple(a, b, c)) return -9;
            if (flat(a, b, c)) return -2;
            Set<Integer> t = Set.of(a, b, c);
            if (barred.size() == 20 && !barred.contains(t)) return -3;
            barred.add(t);
            return barred.size();
        }

        int orient(int a, int b, int c, int s) {
            if (!isTriple(a, b, c) || Math.abs(s) != 1) return -9;
            if (flat(a, b, c)) return -2;
            for (int[] o : oriented) {
                if (Set.of(o[0], o[1], o[2]).equals(Set.of(a, b, c))) return turned(o, a, b, c) == s ? oriented.size() : -2;
            }
            if (oriented.size() == 20) return -3;
            oriented.add(new int[] {a, b, c, s});
            return oriented.size();
        }

        /** SIGN o[3] of o[0], o[1], o[2] for the order a, b, c, by exchanges done one by one. */
        private static int turned(int[] o, int a, int b, int c) {
            int x = o[0], y = o[1], z = o[2], s = o[3], kept;
            if (x != a) {
                if (y == a) { kept = x; x = y; y = kept; } else { kept = x; x = z; z = kept; }
                s = -s;
            }
            return y == b ? s : -s;
        }

        private static int[] place(int field, int k) {
            if (field == 0) return new int[] {1, k / 5, k % 5};
            if (k == 0) return new int[] {0, 0, 1};
            return k <= field ? new int[] {0, 1, k - 1} : new int[] {1, (k - field - 1) / field, (k - field - 1) % field};
        }

        private static int value(int field, int i, int j, int k) {
            int[] u = place(field, i), v = place(field, j), w = place(field, k);
            int d = u[0] * (v[1] * w[2] - v[2] * w[1]) - u[1] * (v[0] * w[2] - v[2] * w[0]) + u[2] * (v[0] * w[1] - v[1] * w[0]);
            return field == 0 ? d : Math.floorMod(d, field);
        }

        /** What A PICTURE wants of the POINT n - 1 and those ahead of it. */
        private boolean goes(int[] at, int n) {
            int p = n - 1;
            for (int a = 0; a < p; a++) if (at[a] == at[p]) return false;
            for (int a = 0; a < p; a++) for (int b = a + 1; b < p; b++) {
                if (flat(a, b, p) && value(field, at[a], at[b], at[p]) != 0) return false;
                if (barred.contains(Set.of(a, b, p)) && value(field, at[a], at[b], at[p]) == 0) return false;
            }
            for (int[] o : oriented) {
                if (Math.max(o[0], Math.max(o[1], o[2])) != p) continue;
                int v = value(field, at[o[0]], at[o[1]], at[o[2]]);
                if (v == 0 || field == 0 && Integer.signum(v) != o[3]) return false;
            }
            return true;
        }

        int realise(int f, int limit) {
            if (!List.of(0, 2, 3, 5, 7, 11, 13).contains(f) || limit < 1 || limit > 20000) return -9;
            if (words.isEmpty()) return -2;
            field = f;
            steps = 0;
            picture = null;
            int[] at = new int[names.size()];
            int found = tryFrom(at, 0, limit);
            if (found == 1) picture = at;
            return found;
        }

        private int tryFrom(int[] at, int p, int limit) {
            if (p == at.length) return 1;
            int size = field == 0 ? 25 : field * field + field + 1;
            for (int k = 0; k < size; k++) {
                if (steps == limit) return 2;
                steps++;
                at[p] = k;
                int found = goes(at, p + 1) ? tryFrom(at, p + 1, limit) : 0;
                if (found != 0) return found;
            }
            return 0;
        }

        int coordinate(int p, int i) {
            if (!isPoint(p) || i < 0 || i > 3) return -9;
            if (picture == null) return -2;
            return i == 3 ? picture[p] : place(field, picture[p])[i];
        }

        int check() {
            if (picture == null) return -2;
            for (int n = 1; n <= picture.length; n++) if (!goes(picture, n)) return 0;
            return 1;
        }

        int meeting(int l, int m, int thrown) {
            if (!isLine(l) || !isLine(m) || l == m) return -9;
            if (picture == null || field == 0) return -2;
            int found = -1;
            for (int k = 0; k < field * field + field + 1; k++) {
                boolean on = true;
                for (int w : new int[] {l, m}) {
                    on &= value(field, picture[line(w, 0, false)], picture[line(w, 1, false)], k) == 0;
                }
                if (on && found >= 0) return thrown;
                if (on) found = k;
            }
            return found;
        }

        int pivot(int p, int v, int d) {
            if (!List.of(2, 3, 5, 7, 11, 13).contains(p)) return -9;
            if (d % p == 0) return -99;
            for (int r = 0; r < p; r++) if (((long) r * d - v) % p == 0) return r;
            return 12345;
        }

        /** SIGN by ROWS ahead of n, FLAT, ORIENTED; -4 else. */
        private int signOf(int n, int a, int b, int c) {
            for (int i = n - 1; i >= 0; i--) {
                int[] r = rows.get(i);
                if (r[0] != 1 && Set.of(r[6], r[7], r[8]).equals(Set.of(a, b, c))) return turned(new int[] {r[6], r[7], r[8], r[9]}, a, b, c);
            }
            if (flat(a, b, c)) return 0;
            for (int[] o : oriented) if (Set.of(o[0], o[1], o[2]).equals(Set.of(a, b, c))) return turned(o, a, b, c);
            return -4;
        }

        private static int[][] termsOf(int[] q) {
            int a = q[0], b = q[1], c = q[2], d = q[3], e = q[4];
            return new int[][] {{a, b, c, a, d, e, 1}, {a, b, d, a, c, e, -1}, {a, b, e, a, c, d, 1}};
        }

        /** The ROW that a RELATION makes behind n ROWS, null if none. */
        private int[] rowOf(int n, int... q) {
            int[][] terms = termsOf(q);
            int open = 0, above = 0, below = 0, partner = 0, turn = 0;
            int[] t = null;
            for (int[] m : terms) {
                int x = signOf(n, m[0], m[1], m[2]), y = signOf(n, m[3], m[4], m[5]);
                open += (x == -4 ? 1 : 0) + (y == -4 ? 1 : 0);
                if (open > 1) return null;
                if (x == -4) { t = new int[] {m[0], m[1], m[2]}; partner = y; turn = m[6]; }
                else if (y == -4) { t = new int[] {m[3], m[4], m[5]}; partner = x; turn = m[6]; }
                else if (x * y * m[6] > 0) above++;
                else if (x * y * m[6] < 0) below++;
            }
            if (open == 0) {
                boolean broken = below == 0 && above >= 1 || above == 0 && below >= 1;
                return broken ? new int[] {1, q[0], q[1], q[2], q[3], q[4], -4, -4, -4, 0} : null;
            }
            if (partner == 0 || above > 0 && below > 0) return null;
            int term = above > 0 ? -1 : below > 0 ? 1 : 0;
            for (int s = -1; s <= 1; s++) {
                if (s * partner * turn != term) continue;
                List<Integer> up = new ArrayList<>(new TreeSet<>(List.of(t[0], t[1], t[2])));
                int rising = turned(new int[] {t[0], t[1], t[2], s}, up.get(0), up.get(1), up.get(2));
                int kind = s == 0 && barred.contains(Set.of(t[0], t[1], t[2])) ? 2 : 0;
                return new int[] {kind, q[0], q[1], q[2], q[3], q[4], up.get(0), up.get(1), up.get(2), rising};
            }
            return null;
        }

        private int[] nextRow() {
            int n = names.size();
            for (int a = 0; a < n; a++) for (int b = 0; b < n; b++) for (int c = b + 1; c < n; c++)
                for (int d = c + 1; d < n; d++) for (int e = d + 1; e < n; e++) {
                    if (a == b || a == c || a == d || a == e) continue;
                    int[] r = rowOf(rows.size(), a, b, c, d, e);
                    if (r != null) return r;
                }
            return null;
        }

        int deduce() {
            if (words.isEmpty()) return -2;
            rows.clear();
            while (true) {
                int[] r = nextRow();
                if (r == null) return latest = 1;
                rows.add(r);
                if (r[0] != 0) return latest = 0;
                if (rows.size() == 60) return latest = 2;
            }
        }

        int row(int i, int what) {
            if (what < 0 || what > 9) return -9;
            return i < 0 || i >= rows.size() ? -4 : rows.get(i)[what];
        }

        int plant(int i, int v) {
            if (v < -1 || v > 1) return -9;
            if (i < 0 || i >= rows.size() || rows.get(i)[0] == 1) return -4;
            int was = rows.get(i)[9];
            rows.get(i)[9] = v;
            return was;
        }

        int proof() {
            for (int i = 0; i < rows.size(); i++) {
                int[] r = rows.get(i);
                int[] again = rowOf(i, r[1], r[2], r[3], r[4], r[5]);
                if (again == null || !java.util.Arrays.equals(again, r)) return 0;
            }
            return 1;
        }

        int known(int a, int b, int c) { return isTriple(a, b, c) ? signOf(rows.size(), a, b, c) : -9; }

        int certificate(int i, int side) {
            if (i < 0 || i > 2 || side < 0 || side > 2) return -9;
            if (rows.isEmpty()) return -2;
            int[] r = rows.get(rows.size() - 1);
            int[] m = termsOf(new int[] {r[1], r[2], r[3], r[4], r[5]})[i];
            int x = signOf(rows.size(), m[0], m[1], m[2]), y = signOf(rows.size(), m[3], m[4], m[5]);
            return side == 0 ? x : side == 1 ? y : x == -4 || y == -4 ? -4 : x * y * m[6];
        }

        private static final Map<String, Integer> KINDS = new HashMap<>();

        int kinds(int n, int m) {
            if (n < 3 || n > 6 || m < 0 || m > 4) return -9;
            return KINDS.computeIfAbsent(n + " " + m, x -> formsOf(n, m).size());
        }

        /** Least forms of all sets of m LINES. */
        private static Set<List<Integer>> formsOf(int n, int m) {
            Set<List<Integer>> forms = new HashSet<>();
            List<Integer> all = new ArrayList<>();
            for (int x = 0; x < 1 << n; x++) if (Integer.bitCount(x) == 3) all.add(x);
            for (int set = 0; set < 1 << all.size(); set++) {
                if (Integer.bitCount(set) != m) continue;
                List<Integer> form = new ArrayList<>();
                boolean fine = true;
                for (int i = 0; i < all.size(); i++) {
                    if ((set >> i & 1) == 0) continue;
                    for (int other : form) fine &= Integer.bitCount(other & all.get(i)) < 2;
                    form.add(all.get(i));
                }
                if (fine) forms.add(leastOf(form, n));
            }
            return forms;
        }

        private static List<List<Integer>> renamings(int n) {
            List<List<Integer>> all = new ArrayList<>();
            if (n == 0) { all.add(new ArrayList<>()); return all; }
            for (List<Integer> shorter : renamings(n - 1)) {
                for (int i = 0; i < n; i++) {
                    List<Integer> longer = new ArrayList<>(shorter);
                    longer.add(i, n - 1);
                    all.add(longer);
                }
            }
            return all;
        }

        private static List<Integer> renamed(List<Integer> form, List<Integer> by) {
            List<Integer> other = new ArrayList<>();
            for (int line : form) {
                int sum = 0;
                for (int p = 0; p < by.size(); p++) if ((line >> p & 1) == 1) sum += 1 << by.get(p);
                other.add(sum);
            }
            other.sort(null);
            return other;
        }

        private static boolean less(List<Integer> x, List<Integer> y) {
            for (int i = 0; i < x.size(); i++) {
                if (!x.get(i).equals(y.get(i))) return x.get(i) < y.get(i);
            }
            return false;
        }

        private static List<Integer> leastOf(List<Integer> form, int n) {
            List<Integer> best = null;
            for (List<Integer> by : renamings(n)) {
                List<Integer> other = renamed(form, by);
                if (best == null || less(other, best)) best = other;
            }
            return best;
        }

        private void study() {
            if (keep != null) return;
            keep = new HashMap<>();
            List<Integer> form = new ArrayList<>();
            for (String w : words) {
                int sum = 0;
                for (char c : w.toCharArray()) sum += 1 << names.indexOf(c);
                form.add(sum);
            }
            least = leastOf(form, names.size());
            for (List<Integer> by : renamings(names.size())) {
                if (!new HashSet<>(renamed(form, by)).equals(new HashSet<>(form))) continue;
                List<Integer> power = new ArrayList<>(by);
                int order = 1;
                while (!sorted(power)) {
                    for (int i = 0; i < power.size(); i++) power.set(i, by.get(power.get(i)));
                    order++;
                }
                keep.merge(order, 1, Integer::sum);
                keep.merge(0, 1, Integer::sum);
            }
        }

        private static boolean sorted(List<Integer> row) {
            for (int i = 0; i < row.size(); i++) if (row.get(i) != i) return false;
            return true;
        }

        int canonical(int i) {
            if (words.isEmpty() || names.size() > 7) return -2;
            study();
            return i < 0 || i >= least.size() ? -4 : least.get(i);
        }

        int orbit(int n) {
            if (n < 0) return -9;
            if (words.isEmpty() || names.size() > 7) return -2;
            study();
            return keep.getOrDefault(n, 0);
        }
    }
}
