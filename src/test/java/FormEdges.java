/** Edges of KINDS, THE LEAST FORM and RENAMINGS: the terms' fourth part, promises 20 to 22. */
public final class FormEdges {
    private static final int BAD = Edges.BAD, STATE = Edges.STATE, NONE = Edges.NONE, MIN = Edges.MIN, MAX = Edges.MAX;

    public static void main(String[] args) throws Exception {
        Edges.run(FormEdges.class);
    }

    // Promise 20

    @Edges.Says("20: m LINES (0 to 4); BAD")
    static void p20BadLines() {
        ConfigSearch x = new ConfigSearch();
        for (int m : new int[] {-1, 5, 6, MIN, MAX}) {
            for (int n = 3; n <= 6; n++) {
                Edges.due("kinds(" + n + ", " + m + ")", x.kinds(n, m), BAD);
            }
        }
    }

    @Edges.Says("20: n POINTS (3 to 6); BAD")
    static void p20BadPoints() {
        ConfigSearch x = new ConfigSearch();
        for (int n : new int[] {2, 1, 0, -1, 7, 8, MIN, MAX}) {
            for (int m = 0; m <= 4; m++) {
                Edges.due("kinds(" + n + ", " + m + ")", x.kinds(n, m), BAD);
            }
        }
    }

    @Edges.Says("20: no LINES at all are one KIND")
    static void p20NoLines() {
        for (int n = 3; n <= 6; n++) {
            Edges.due("kinds(" + n + ", 0)", new ConfigSearch().kinds(n, 0), 1);
        }
    }

    @Edges.Says("20: of one LINE there is one KIND")
    static void p20OneLine() {
        for (int n = 3; n <= 6; n++) {
            Edges.due("kinds(" + n + ", 1)", new ConfigSearch().kinds(n, 1), 1);
        }
    }

    @Edges.Says("20: no two with two POINTS in common: two LINES need five POINTS, three or four six")
    static void p20FewPoints() {
        int[][] due = {{0, 0, 0}, {0, 0, 0}, {1, 0, 0}, {2, 1, 1}};
        for (int n = 3; n <= 6; n++) {
            for (int m = 2; m <= 4; m++) {
                Edges.due("kinds(" + n + ", " + m + ")", new ConfigSearch().kinds(n, m), due[n - 3][m - 2]);
            }
        }
    }

    @Edges.Says("20: the same whatever is asked ahead, and beside LINES that were read")
    static void p20AnyOrder() {
        int[][] due = {{1, 1, 0, 0, 0}, {1, 1, 0, 0, 0}, {1, 1, 1, 0, 0}, {1, 1, 2, 1, 1}};
        ConfigSearch x = Edges.with(Edges.FANO);
        Edges.due("canonical(6)", x.canonical(6), 97);
        for (int time = 0; time < 2; time++) {
            for (int n = 6; n >= 3; n--) {
                for (int m = 4; m >= 0; m--) {
                    Edges.due("kinds(" + n + ", " + m + ")", x.kinds(n, m), due[n - 3][m]);
                }
            }
        }
        Edges.due("canonical(6) again", x.canonical(6), 97);
        Edges.due("orbit(0)", x.orbit(0), 168);
    }

    // Promise 21

    @Edges.Says("21: STATE: no LINES")
    static void p21NoLines() {
        ConfigSearch x = new ConfigSearch();
        for (int i : new int[] {0, 1, -1, 12, MIN, MAX}) {
            Edges.due("canonical(" + i + ")", x.canonical(i), STATE);
        }
        Edges.tell(x, "ab");
        Edges.due("canonical(0) behind a FAULT", x.canonical(0), STATE);
    }

    @Edges.Says("21: STATE: more than 7 POINTS")
    static void p21EightPoints() {
        for (String text : new String[] {"abcd efgh", "abc def ghi", "abcde fghij", Edges.TWELVE}) {
            ConfigSearch x = Edges.with(text);
            for (int i : new int[] {0, 1, 2, -1, 12, MAX}) {
                Edges.due("canonical(" + i + ") of '" + text + "'", x.canonical(i), STATE);
            }
        }
        Edges.due("canonical(0) of seven POINTS", Edges.with("abcd efg").canonical(0), 7);
        Edges.due("canonical(0) of seven letters up to j", Edges.with("jihg efa").canonical(0), 7);
    }

    @Edges.Says("21: NONE: none such")
    static void p21None() {
        for (String text : new String[] {"abc", "abc ade", Edges.FANO}) {
            ConfigSearch x = Edges.with(text);
            int lines = x.count(1);
            for (int i : new int[] {-1, lines, lines + 1, 11, 12, MIN, MAX}) {
                Edges.due("canonical(" + i + ") of '" + text + "'", x.canonical(i), NONE);
            }
            Edges.due("canonical() of the last is one", x.canonical(lines - 1) > 0);
        }
    }

    private static void formIs(String text, int... form) {
        ConfigSearch x = Edges.with(text);
        for (int i = form.length - 1; i >= 0; i--) {
            Edges.due("canonical(" + i + ") of '" + text + "'", x.canonical(i), form[i]);
        }
        Edges.due("canonical() behind it", x.canonical(form.length), NONE);
    }

    @Edges.Says("21: LINES as sums of 2^POINT, rising; the least such row (by the first number in which they differ)")
    static void p21LeastForm() {
        formIs("abc", 7);
        formIs("abcd", 15);
        formIs("edcba", 31);
        formIs("abc ade", 7, 25);
        formIs("edc cab", 7, 25);
        formIs("abc def", 7, 56);
        // the first number is the least, though the second is greater by it
        formIs("abcd aef", 7, 57);
        formIs("aef abcd", 7, 57);
        formIs("abcd efg", 7, 120);
        formIs("abcde afg", 7, 121);
        formIs("gcb fda gfe", 7, 25, 98);
        formIs("abc ade bdf cef", 7, 25, 42, 52);
        formIs(Edges.FANO, 7, 25, 42, 52, 76, 82, 97);
        formIs("gfe gdc gba fdb fca eda ecb", 7, 25, 42, 52, 76, 82, 97);
    }

    @Edges.Says("21: of all RENAMINGS: the same however POINTS are named and LINES told")
    static void p21Renamed() {
        String[] texts = {"abc cde efa", "bca edc afe", "jhf fdb bgj", "afe abc ecd", "gde eac cbg"};
        for (String text : texts) {
            formIs(text, 7, 25, 42);
        }
    }

    // Promise 22

    @Edges.Says("22: BAD: below 0; ahead of STATE")
    static void p22Bad() {
        for (ConfigSearch x : new ConfigSearch[] {new ConfigSearch(), Edges.with("abc"), Edges.with("abcd efgh")}) {
            for (int n : new int[] {-1, -2, MIN}) {
                Edges.due("orbit(" + n + ")", x.orbit(n), BAD);
            }
        }
    }

    @Edges.Says("22: STATE as canonical()")
    static void p22State() {
        String[] texts = {"", "ab", "abcd efgh", "abcde fghij", Edges.TWELVE};
        for (String text : texts) {
            ConfigSearch x = new ConfigSearch();
            Edges.tell(x, text);
            for (int n : new int[] {0, 1, 2, 12, 13, MAX}) {
                Edges.due("orbit(" + n + ") of '" + text + "'", x.orbit(n), STATE);
            }
        }
        Edges.due("orbit(0) of seven POINTS", Edges.with("abcd efg").orbit(0), 144);
    }

    private static void ordersAre(String text, int all, int... ofEach) {
        ConfigSearch x = Edges.with(text);
        int sum = 0;
        for (int n = 1; n <= 20; n++) {
            Edges.due("orbit(" + n + ") of '" + text + "'", x.orbit(n), n <= ofEach.length ? ofEach[n - 1] : 0);
            sum += x.orbit(n);
        }
        Edges.due("orbit(0) of '" + text + "'", x.orbit(0), all);
        Edges.due("all ORDERS together", sum, all);
    }

    @Edges.Says("22: that have an ORDER n (0: of any)")
    static void p22Orders() {
        ordersAre("abc", 6, 1, 3, 2);
        ordersAre("abcd", 24, 1, 9, 8, 6);
        ordersAre("abcde", 120, 1, 25, 20, 30, 24, 20);
        ordersAre("abc ade", 8, 1, 5, 0, 2);
        ordersAre("abcd aef", 12, 1, 7, 2, 0, 0, 2);
        ordersAre("abcd efg", 144, 1, 39, 26, 24, 0, 42, 0, 0, 0, 0, 0, 12);
        ordersAre(Edges.FANO, 168, 1, 21, 56, 42, 0, 0, 48);
    }

    @Edges.Says("22: its ORDER is how often it must be done (1 at least): that of no change is 1")
    static void p22OrderOne() {
        for (String text : new String[] {"abc", "abc ade", "abcd efg", Edges.FANO, "abcd aef bge"}) {
            Edges.due("orbit(1) of '" + text + "'", Edges.with(text).orbit(1), 1);
        }
    }

    @Edges.Says("22: an ORDER that no RENAMING of so few POINTS has: 0")
    static void p22TooLarge() {
        ConfigSearch x = Edges.with("abcd efg");
        for (int n : new int[] {5, 7, 8, 9, 10, 11, 13, 14, 24, 60, 5040, 65536, MAX}) {
            Edges.due("orbit(" + n + ")", x.orbit(n), 0);
        }
        Edges.due("orbit(12)", x.orbit(12), 12);
    }

    @Edges.Says("22: a RENAMING KEEPS, if the set of LINES becomes itself, whatever else is told")
    static void p22LinesAlone() {
        ConfigSearch x = Edges.with("abc ade");
        x.bar(0, 1, 3);
        x.orient(0, 1, 4, 1);
        Edges.due("orbit(0)", x.orbit(0), 8);
        Edges.due("canonical(1)", x.canonical(1), 25);
        x.realise(7, 20000);
        x.deduce();
        Edges.due("orbit(2)", x.orbit(2), 5);
    }
}
