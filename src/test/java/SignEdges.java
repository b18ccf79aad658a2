/** Edges of SIGNS, RELATIONS and ROWS: the terms' third part, promises 14 to 19. */
public final class SignEdges {
    private static final int BAD = Edges.BAD, STATE = Edges.STATE, NONE = Edges.NONE, MIN = Edges.MIN, MAX = Edges.MAX;
    private static final String WIDE = "abcde afghi bfj";

    public static void main(String[] args) throws Exception {
        Edges.run(SignEdges.class);
    }

    /** SIGNS from which, on WIDE, so many ROWS follow as the name says. */
    private static final int[] JUST_59 = {3, 7, 8, -1, 3, 6, 8, -1, 0, 3, 8, 1, 1, 5, 7, -1, 1, 3, 7, 1, 0, 3, 9, 1, 3, 4, 9, 1,
        3, 6, 9, 1, 2, 4, 9, 1, 2, 4, 8, 1, 0, 4, 5, 1, 1, 6, 9, 1, 2, 3, 9, 1, 4, 6, 9, 1, 1, 6, 8, -1, 1, 4, 9, 1, 2, 3, 7, 1,
        0, 3, 6, 1, 1, 2, 5, 1, 0, 4, 8, 1};
    private static final int[] JUST_60 = {0, 3, 5, 1, 6, 7, 9, -1, 1, 2, 8, 1, 0, 3, 7, 1, 2, 5, 7, -1, 4, 5, 9, 1, 4, 6, 8, -1,
        2, 8, 9, 1, 1, 3, 8, 1, 2, 7, 8, -1, 1, 5, 8, -1, 1, 2, 5, 1, 0, 1, 9, 1, 0, 4, 5, 1, 0, 1, 6, 1, 2, 3, 8, 1, 2, 6, 7, -1,
        0, 4, 7, 1, 1, 5, 7, -1, 3, 5, 8, -1};
    private static final int[] JUST_61 = {0, 3, 6, 1, 4, 5, 8, -1, 0, 3, 8, 1, 1, 4, 9, 1, 1, 5, 6, -1, 2, 5, 9, 1, 0, 3, 7, 1,
        0, 2, 6, 1, 3, 4, 9, 1, 1, 4, 7, 1, 1, 4, 8, 1, 7, 8, 9, 1, 0, 1, 6, 1, 1, 2, 7, 1, 1, 6, 9, 1, 6, 8, 9, -1, 1, 5, 8, -1,
        0, 7, 9, -1, 0, 2, 5, 1};
    private static final int[] BROKEN_59TH = {5, 7, 9, -1, 4, 6, 8, 1, 2, 6, 8, -1, 0, 1, 9, 1, 2, 3, 5, 1, 1, 6, 8, -1, 1, 6, 7, -1,
        2, 8, 9, 1, 4, 6, 9, 1, 7, 8, 9, -1, 4, 5, 7, -1, 1, 2, 9, 1, 2, 6, 9, 1, 0, 3, 7, 1, 1, 6, 9, 1, 5, 8, 9, -1, 4, 5, 6, -1,
        4, 5, 9, 1, 0, 3, 8, 1, 3, 5, 9, 1};
    private static final int[] BROKEN_60TH = {2, 4, 9, 1, 4, 7, 8, -1, 0, 4, 5, 1, 0, 8, 9, -1, 3, 4, 5, 1, 1, 3, 8, 1, 1, 4, 5, 1,
        0, 3, 9, 1, 2, 8, 9, 1, 1, 2, 6, 1, 0, 2, 8, 1, 3, 5, 7, 1, 1, 4, 6, 1, 0, 1, 7, 1, 3, 5, 6, -1, 1, 3, 5, 1, 3, 6, 7, -1,
        0, 3, 5, -1, 3, 8, 9, 1, 2, 7, 8, -1};
    private static final int[] BROKEN_61ST = {3, 4, 7, 1, 2, 4, 6, 1, 6, 8, 9, -1, 2, 6, 9, 1, 0, 8, 9, -1, 0, 3, 7, 1, 2, 5, 6, -1,
        2, 5, 8, 1, 0, 1, 8, 1, 2, 6, 8, -1, 1, 3, 5, 1, 0, 2, 5, 1, 1, 4, 5, 1, 4, 6, 9, 1, 5, 7, 9, -1, 3, 5, 7, -1, 2, 4, 5, 1,
        0, 3, 5, -1, 3, 6, 9, 1, 1, 6, 8, 1};

    /** abc ade: of 0; 1, 2, 3, 4 the first TERM is 0; 013, 024, 014 are told, 023 if last is not 0. */
    private static ConfigSearch pencil(int last) {
        ConfigSearch x = Edges.orientAll(Edges.with("abc ade"), 0, 1, 3, 1, 0, 2, 4, 1, 0, 1, 4, 1);
        if (last != 0) {
            Edges.orientAll(x, 0, 2, 3, last);
        }
        return x;
    }

    /** One RELATION of three lines' POINTS none of whose TRIPLES is FLAT: its a, b, c, d, e. */
    private static final int[][] RELATIONS = {{0, 1, 3, 4, 6}, {1, 0, 3, 4, 6}, {4, 0, 1, 6, 7}, {8, 0, 1, 3, 4}, {3, 0, 1, 6, 7}};
    /** Which of its POINTS each of its six SIGNS has, TERM by TERM. */
    private static final int[][] SIX = {{0, 1, 2}, {0, 3, 4}, {0, 1, 3}, {0, 2, 4}, {0, 1, 4}, {0, 2, 3}};
    private static final int[] TURN = {1, -1, 1};

    private static int bit(int signs, int n) {
        return (signs >> n & 1) == 0 ? 1 : -1;
    }

    private static int term(int signs, int n) {
        return TURN[n] * bit(signs, 2 * n) * bit(signs, 2 * n + 1);
    }

    /** Tells the SIGNS of a RELATION, as it names them, but one. */
    private static ConfigSearch relation(int[] r, int signs, int without) {
        ConfigSearch x = Edges.with("abc def ghi");
        for (int n = 0; n < 6; n++) {
            if (n != without) {
                Edges.orientAll(x, r[SIX[n][0]], r[SIX[n][1]], r[SIX[n][2]], bit(signs, n));
            }
        }
        return x;
    }

    // RELATIONS

    @Edges.Says("RELATION: no TERM below 0, one at least above, or no TERM above, one at least below: BROKEN")
    static void termsBroken() {
        for (int[] r : RELATIONS) {
            for (int signs = 0; signs < 64; signs++) {
                ConfigSearch x = relation(r, signs, -1);
                boolean broken = term(signs, 0) == term(signs, 1) && term(signs, 1) == term(signs, 2);
                Edges.due("deduce()", x.deduce(), broken ? 0 : 1);
                Edges.due("count(4)", x.count(4), broken ? 1 : 0);
                if (broken) {
                    Edges.rowIs(x, 0, 1, r[0], r[1], r[2], r[3], r[4], NONE, NONE, NONE, 0);
                }
            }
        }
    }

    @Edges.Says("RELATION: one TERM is 0, two are above or below: BROKEN; one above, one below: not")
    static void termsBrokenBesideZero() {
        for (int signs = 0; signs < 16; signs++) {
            ConfigSearch x = Edges.orientAll(Edges.with("abc ade"), 0, 1, 3, bit(signs, 0), 0, 2, 4, bit(signs, 1),
                    0, 1, 4, bit(signs, 2), 0, 2, 3, bit(signs, 3));
            boolean broken = -bit(signs, 0) * bit(signs, 1) == bit(signs, 2) * bit(signs, 3);
            Edges.due("deduce()", x.deduce(), broken ? 0 : 1);
            Edges.due("count(4)", x.count(4), broken ? 1 : 0);
        }
    }

    @Edges.Says("RELATION: all SIGNS KNOWN and all TERMS 0: not BROKEN")
    static void termsAllZero() {
        ConfigSearch five = Edges.with("abcde");
        Edges.due("deduce() of one LINE of five", five.deduce(), 1);
        Edges.due("count(4)", five.count(4), 0);
        ConfigSearch four = Edges.orientAll(Edges.with("abcd efg"), 0, 1, 4, 1, 0, 2, 4, 1, 0, 3, 4, -1);
        Edges.due("deduce() of three TERMS by FLAT ones", four.deduce(), 1);
        Edges.due("count(4)", four.count(4), 0);
    }

    @Edges.Says("RELATION: all but one KNOWN: none below, one above: below 0; none above, one below: above 0; (else nothing)")
    static void termsTold() {
        for (int[] r : RELATIONS) {
            for (int signs = 0; signs < 64; signs++) {
                for (int open = 0; open < 6; open++) {
                    if (bit(signs, open) < 0) {
                        continue;
                    }
                    int mine = open / 2, one = (mine + 1) % 3, other = (mine + 2) % 3;
                    ConfigSearch x = relation(r, signs, open);
                    boolean told = term(signs, one) == term(signs, other);
                    int[] t = {r[SIX[open][0]], r[SIX[open][1]], r[SIX[open][2]]};
                    Edges.due("deduce()", x.deduce(), 1);
                    Edges.due("count(4)", x.count(4), told ? 1 : 0);
                    // the SIGN that makes its TERM the opposite of the two others
                    int sign = -term(signs, one) * TURN[mine] * bit(signs, open ^ 1);
                    Edges.due("known() of the open one", x.known(t[0], t[1], t[2]), told ? sign : NONE);
                    if (told) {
                        int[] up = t.clone();
                        java.util.Arrays.sort(up);
                        Edges.rowIs(x, 0, 0, r[0], r[1], r[2], r[3], r[4], up[0], up[1], up[2], x.known(up[0], up[1], up[2]));
                    }
                }
            }
        }
    }

    @Edges.Says("RELATION: one TERM is 0: one above: below 0; one below: above 0")
    static void termsToldBesideZero() {
        for (int signs = 0; signs < 8; signs++) {
            ConfigSearch x = Edges.orientAll(Edges.with("abc ade"), 0, 1, 3, bit(signs, 0), 0, 2, 4, bit(signs, 1), 0, 1, 4, bit(signs, 2));
            Edges.due("deduce()", x.deduce(), 1);
            Edges.rowIs(x, 0, 0, 0, 1, 2, 3, 4, 0, 2, 3, bit(signs, 0) * bit(signs, 1) * bit(signs, 2));
        }
    }

    @Edges.Says("RELATION: and the other SIGN of its TERM is not 0: else nothing is TOLD")
    static void termsPartnerZero() {
        // abc is FLAT, 034 not KNOWN, the two other TERMS both above or both below
        for (int sign = -1; sign <= 1; sign += 2) {
            ConfigSearch x = Edges.orientAll(Edges.with("abc def"), 0, 1, 3, sign, 0, 2, 4, 1, 0, 1, 4, -1, 0, 2, 3, sign);
            Edges.due("deduce()", x.deduce(), 1);
            Edges.due("count(4)", x.count(4), 0);
            Edges.due("known(0, 3, 4)", x.known(0, 3, 4), NONE);
        }
        // abcd: each TERM has a FLAT one, so that the two others are both 0
        int[][] told = {{1, 2}, {1, 3}, {2, 3}};
        for (int[] two : told) {
            ConfigSearch x = Edges.orientAll(Edges.with("abcd efg"), 0, two[0], 4, 1, 0, two[1], 4, 1);
            Edges.due("deduce() of abcd", x.deduce(), 1);
            Edges.due("count(4) of abcd", x.count(4), 0);
        }
    }

    @Edges.Says("RELATION: two SIGNS not KNOWN: nothing is TOLD, in one TERM or in two")
    static void termsTwoOpen() {
        for (int one = 0; one < 6; one++) {
            for (int other = 0; other < one; other++) {
                ConfigSearch x = Edges.with("abc def ghi");
                int[] r = RELATIONS[2];
                for (int n = 0; n < 6; n++) {
                    if (n != one && n != other) {
                        Edges.orientAll(x, r[SIX[n][0]], r[SIX[n][1]], r[SIX[n][2]], n == 2 ? -1 : 1);
                    }
                }
                Edges.due("deduce()", x.deduce(), 1);
                Edges.due("count(4)", x.count(4), 0);
            }
        }
    }

    @Edges.Says("RELATION: five unlike POINTS: with three or four there is none")
    static void termsFewPoints() {
        Edges.due("deduce() of three POINTS", Edges.with("abc").deduce(), 1);
        ConfigSearch four = Edges.with("abcd");
        Edges.due("deduce() of four POINTS", four.deduce(), 1);
        Edges.due("count(4)", four.count(4), 0);
    }

    @Edges.Says("FOLLOWING: of all RELATIONS (a rising, then b, c, d, e) the first makes a ROW: a, e")
    static void termsFirstByA() {
        // 8; 1, 2, 3, 4 and 0; 1, 3, 4, 7 and 0; 1, 3, 4, 6 tell at once
        ConfigSearch x = Edges.orientAll(Edges.with("abc def ghi"), 8, 3, 4, 1, 8, 1, 3, -1, 8, 2, 4, 1, 8, 1, 4, 1, 8, 2, 3, 1,
                0, 1, 7, 1, 0, 3, 7, -1, 0, 1, 3, 1, 0, 1, 4, 1, 0, 3, 4, 1, 0, 1, 6, 1, 0, 3, 6, -1);
        Edges.due("deduce()", x.deduce(), 1);
        Edges.due("count(4)", x.count(4), 3);
        Edges.rowIs(x, 0, 0, 0, 1, 3, 4, 6, 0, 4, 6, -1);
        Edges.rowIs(x, 1, 0, 0, 1, 3, 4, 7, 0, 4, 7, -1);
        Edges.rowIs(x, 2, 0, 8, 1, 2, 3, 4, 1, 2, 8, -1);
    }

    @Edges.Says("FOLLOWING: of all RELATIONS (a rising, then b, c, d, e) the first makes a ROW: b ahead of e")
    static void termsFirstByB() {
        // 0; 3, 4, 6, 7 and 0; 1, 3, 6, 8 tell at once
        ConfigSearch x = Edges.orientAll(Edges.with("abc def ghi"), 0, 3, 4, 1, 0, 4, 7, -1, 0, 3, 7, -1, 0, 4, 6, -1,
                0, 1, 3, 1, 0, 1, 6, 1, 0, 3, 8, -1, 0, 1, 8, 1, 0, 3, 6, 1);
        Edges.due("deduce()", x.deduce(), 1);
        Edges.due("count(4)", x.count(4), 2);
        Edges.rowIs(x, 0, 0, 0, 1, 3, 6, 8, 0, 6, 8, -1);
        Edges.rowIs(x, 1, 0, 0, 3, 4, 6, 7, 0, 6, 7, -1);
    }

    @Edges.Says("FOLLOWING: the first that is BROKEN, or by which a SIGN is TOLD: one as good as the other")
    static void termsBrokenOrTold() {
        // 0; 1, 3, 4, 6 tells, 8; 1, 2, 3, 4 is BROKEN
        ConfigSearch told = Edges.orientAll(Edges.with("abc def ghi"), 8, 3, 4, 1, 8, 1, 3, -1, 8, 2, 4, 1, 8, 1, 4, 1, 8, 2, 3, 1,
                8, 1, 2, 1, 0, 1, 3, 1, 0, 1, 4, 1, 0, 3, 4, 1, 0, 1, 6, 1, 0, 3, 6, -1);
        Edges.due("deduce()", told.deduce(), 0);
        Edges.due("count(4)", told.count(4), 2);
        Edges.rowIs(told, 0, 0, 0, 1, 3, 4, 6, 0, 4, 6, -1);
        Edges.rowIs(told, 1, 1, 8, 1, 2, 3, 4, NONE, NONE, NONE, 0);
        // 0; 1, 3, 4, 6 is BROKEN, 8; 1, 2, 3, 4 would tell
        ConfigSearch broken = Edges.orientAll(Edges.with("abc def ghi"), 8, 3, 4, 1, 8, 1, 3, -1, 8, 2, 4, 1, 8, 1, 4, 1, 8, 2, 3, 1,
                0, 4, 6, 1, 0, 1, 3, 1, 0, 1, 4, 1, 0, 3, 4, 1, 0, 1, 6, 1, 0, 3, 6, -1);
        Edges.due("deduce()", broken.deduce(), 0);
        Edges.due("count(4)", broken.count(4), 1);
        Edges.rowIs(broken, 0, 1, 0, 1, 3, 4, 6, NONE, NONE, NONE, 0);
    }

    /** 4; 0, 1, 6, 7 tells 014; then 0; 1, 3, 4, 6 tells 034. */
    private static ConfigSearch backwards() {
        ConfigSearch x = Edges.orientAll(Edges.with("abc def ghi"), 4, 6, 7, 1, 4, 0, 6, 1, 4, 1, 7, -1, 4, 0, 7, 1, 4, 1, 6, 1,
                0, 1, 3, 1, 0, 3, 6, -1, 0, 1, 6, 1);
        Edges.due("deduce()", x.deduce(), 1);
        return x;
    }

    @Edges.Says("FOLLOWING: again and again: a ROW may let an earlier RELATION tell")
    static void termsAgain() {
        ConfigSearch x = backwards();
        Edges.due("count(4)", x.count(4), 2);
        Edges.rowIs(x, 0, 0, 4, 0, 1, 6, 7, 0, 1, 4, -1);
        Edges.rowIs(x, 1, 0, 0, 1, 3, 4, 6, 0, 3, 4, 1);
        Edges.due("proof()", x.proof(), 1);
    }

    @Edges.Says("FOLLOWING: from no ROWS on")
    static void termsFromNoRows() {
        ConfigSearch x = pencil(0);
        for (int time = 0; time < 3; time++) {
            Edges.due("deduce()", x.deduce(), 1);
            Edges.due("count(4)", x.count(4), 1);
            Edges.rowIs(x, 0, 0, 0, 1, 2, 3, 4, 0, 2, 3, 1);
            x.plant(0, time - 1);
        }
        Edges.orientAll(x, 0, 2, 3, -1);
        Edges.due("deduce() of what is told now", x.deduce(), 0);
        Edges.due("count(4)", x.count(4), 1);
    }

    // Promise 14

    private static void rowsFrom(int[] told, int answer, int rows, int lastKind) {
        ConfigSearch x = Edges.orientAll(Edges.with(WIDE), told);
        Edges.due("deduce()", x.deduce(), answer);
        Edges.due("count(7)", x.count(7), answer);
        Edges.due("count(4)", x.count(4), rows);
        Edges.due("the last ROW's kind", x.row(rows - 1, 0), lastKind);
        Edges.due("the one behind it", x.row(rows, 0), NONE);
        Edges.due("proof()", x.proof(), 1);
    }

    @Edges.Says("14: 0: the last ROW is of kind 1 or 2: it ends FOLLOWING")
    static void p14Broken() {
        ConfigSearch x = pencil(-1);
        Edges.due("deduce()", x.deduce(), 0);
        Edges.due("count(4)", x.count(4), 1);
        rowsFrom(BROKEN_59TH, 0, 59, 1);
    }

    @Edges.Says("14: 0 also if the 60th ROW is of kind 1")
    static void p14Broken60th() {
        rowsFrom(BROKEN_60TH, 0, 60, 1);
    }

    @Edges.Says("14: 1: nothing more follows")
    static void p14NothingMore() {
        Edges.due("deduce() of LINES alone", Edges.with("abc ade").deduce(), 1);
        Edges.due("deduce() of seven LINES", Edges.with(Edges.FANO).deduce(), 1);
        rowsFrom(JUST_59, 1, 59, 0);
    }

    @Edges.Says("14: 2: 60 ROWS, and the last is of kind 0, whether more follows or not")
    static void p14Sixty() {
        rowsFrom(JUST_60, 2, 60, 0);
        rowsFrom(JUST_61, 2, 60, 0);
        rowsFrom(BROKEN_61ST, 2, 60, 0);
    }

    @Edges.Says("14: STATE: no LINES")
    static void p14State() {
        ConfigSearch x = new ConfigSearch();
        Edges.due("deduce()", x.deduce(), STATE);
        Edges.tell(x, "ab");
        Edges.due("deduce() behind a FAULT", x.deduce(), STATE);
        Edges.due("count(7)", x.count(7), NONE);
        Edges.due("count(4)", x.count(4), 0);
    }

    // Promise 15

    @Edges.Says("15: what = 0 .. 9; BAD")
    static void p15Bad() {
        ConfigSearch x = pencil(0);
        x.deduce();
        for (int what : new int[] {-1, 10, 11, MIN, MAX}) {
            Edges.due("row(0, " + what + ")", x.row(0, what), BAD);
            Edges.due("row(1, " + what + "), BAD ahead of NONE", x.row(1, what), BAD);
            Edges.due("row(-1, " + what + "), BAD ahead of NONE", x.row(-1, what), BAD);
        }
    }

    @Edges.Says("15: NONE: no such ROW")
    static void p15None() {
        ConfigSearch x = pencil(0);
        for (int i : new int[] {0, 1, -1, 59, 60, MIN, MAX}) {
            Edges.due("row(" + i + ", 0) without ROWS", x.row(i, 0), NONE);
        }
        x.deduce();
        for (int i : new int[] {1, -1, 59, 60, MIN, MAX}) {
            for (int what = 0; what < 10; what++) {
                Edges.due("row(" + i + ", " + what + ")", x.row(i, what), NONE);
            }
        }
        Edges.due("row(0, 0) of a new object", new ConfigSearch().row(0, 0), NONE);
    }

    @Edges.Says("15: 6 to 8 the TRIPLE of which a SIGN is TOLD, rising; 9 that SIGN")
    static void p15Rising() {
        // a is 2, so that 213 is told below 0 and 123 above
        ConfigSearch x = Edges.orientAll(Edges.with("abc dec"), 0, 2, 3, 1, 1, 2, 4, 1, 0, 2, 4, 1);
        Edges.due("deduce()", x.deduce(), 1);
        Edges.rowIs(x, 0, 0, 2, 0, 1, 3, 4, 1, 2, 3, 1);
        ConfigSearch y = Edges.orientAll(Edges.with("abc dec"), 0, 2, 3, 1, 1, 2, 4, -1, 0, 2, 4, 1);
        Edges.due("deduce()", y.deduce(), 1);
        Edges.rowIs(y, 0, 0, 2, 0, 1, 3, 4, 1, 2, 3, -1);
    }

    @Edges.Says("15: (NONE of kind 1), 9: (of kind 1 0)")
    static void p15KindOne() {
        ConfigSearch x = pencil(-1);
        x.deduce();
        Edges.rowIs(x, 0, 1, 0, 1, 2, 3, 4, NONE, NONE, NONE, 0);
        ConfigSearch last = Edges.orientAll(Edges.with(WIDE), BROKEN_60TH);
        last.deduce();
        for (int what = 6; what < 9; what++) {
            Edges.due("row(59, " + what + ")", last.row(59, what), NONE);
        }
        Edges.due("row(59, 9)", last.row(59, 9), 0);
    }

    @Edges.Says("15: a ROW of kind 1 where one of kind 0 stood before has no TRIPLE")
    static void p15KindOneAfterKindZero() {
        ConfigSearch x = pencil(0);
        x.deduce();
        Edges.orientAll(x, 0, 2, 3, -1);
        x.deduce();
        Edges.rowIs(x, 0, 1, 0, 1, 2, 3, 4, NONE, NONE, NONE, 0);
    }

    // Promise 16

    @Edges.Says("16: v (-1 to 1); BAD, ahead of NONE")
    static void p16Bad() {
        ConfigSearch x = pencil(0);
        Edges.due("plant(0, 2) without ROWS", x.plant(0, 2), BAD);
        x.deduce();
        for (int v : new int[] {-2, 2, 3, MIN, MAX}) {
            Edges.due("plant(0, " + v + ")", x.plant(0, v), BAD);
            Edges.due("plant(1, " + v + ")", x.plant(1, v), BAD);
            Edges.due("plant(-1, " + v + ")", x.plant(-1, v), BAD);
        }
        Edges.due("row(0, 9)", x.row(0, 9), 1);
        ConfigSearch broken = pencil(-1);
        broken.deduce();
        Edges.due("plant(0, 2) of kind 1", broken.plant(0, 2), BAD);
    }

    @Edges.Says("16: SIGN of a ROW becomes v: what it was")
    static void p16Planted() {
        ConfigSearch x = pencil(0);
        x.deduce();
        int was = 1;
        for (int v : new int[] {-1, -1, 0, 0, 1, 1, 0, -1, 1}) {
            Edges.due("plant(0, " + v + ")", x.plant(0, v), was);
            Edges.due("row(0, 9)", x.row(0, 9), v);
            was = v;
        }
        Edges.due("count(4)", x.count(4), 1);
        Edges.due("count(7)", x.count(7), 1);
    }

    @Edges.Says("16: NONE: no such ROW")
    static void p16None() {
        ConfigSearch x = pencil(0);
        Edges.due("plant(0, 0) without ROWS", x.plant(0, 0), NONE);
        x.deduce();
        for (int i : new int[] {1, -1, 59, 60, MIN, MAX}) {
            Edges.due("plant(" + i + ", 0)", x.plant(i, 0), NONE);
        }
        Edges.due("plant(0, 0) of a new object", new ConfigSearch().plant(0, 0), NONE);
    }

    @Edges.Says("16: NONE: or of kind 1")
    static void p16KindOne() {
        ConfigSearch x = pencil(-1);
        x.deduce();
        for (int v = -1; v <= 1; v++) {
            Edges.due("plant(0, " + v + ")", x.plant(0, v), NONE);
        }
        Edges.due("row(0, 9)", x.row(0, 9), 0);
        ConfigSearch last = Edges.orientAll(Edges.with(WIDE), BROKEN_60TH);
        last.deduce();
        Edges.due("plant(59, 1) of kind 1", last.plant(59, 1), NONE);
        Edges.due("plant(58, 0) of kind 0", last.plant(58, 0) != NONE);
    }

    @Edges.Says("16: the first and the last of 60 ROWS")
    static void p16Sixty() {
        ConfigSearch x = Edges.orientAll(Edges.with(WIDE), JUST_60);
        x.deduce();
        for (int i : new int[] {0, 59}) {
            int was = x.row(i, 9);
            Edges.due("plant(" + i + ", 0)", x.plant(i, 0), was);
            Edges.due("proof()", x.proof(), 0);
            Edges.due("plant(" + i + ") back", x.plant(i, was), 0);
            Edges.due("proof() again", x.proof(), 1);
        }
        Edges.due("plant(60, 0)", x.plant(60, 0), NONE);
    }

    // Promise 17

    @Edges.Says("17: no ROWS: all follow")
    static void p17NoRows() {
        Edges.due("proof() of a new object", new ConfigSearch().proof(), 1);
        ConfigSearch x = pencil(0);
        Edges.due("proof() ahead of deduce()", x.proof(), 1);
        ConfigSearch none = pencil(1);
        none.deduce();
        Edges.due("count(4)", none.count(4), 0);
        Edges.due("proof() where nothing follows", none.proof(), 1);
    }

    @Edges.Says("17: each tells its SIGN: any one of many planted otherwise does not")
    static void p17AnyPlanted() {
        for (int i = 0; i < 60; i++) {
            ConfigSearch x = Edges.orientAll(Edges.with(WIDE), JUST_60);
            x.deduce();
            int was = x.row(i, 9);
            x.plant(i, -was);
            Edges.due("proof(), ROW " + i + " turned", x.proof(), 0);
            x.plant(i, 0);
            Edges.due("proof(), ROW " + i + " 0", x.proof(), 0);
            x.plant(i, was);
            Edges.due("proof(), ROW " + i + " back", x.proof(), 1);
        }
    }

    @Edges.Says("17: is of its kind: a BROKEN last ROW, no more so if a ROW ahead of it is planted")
    static void p17Kind() {
        ConfigSearch x = Edges.orientAll(Edges.with(WIDE), BROKEN_59TH);
        x.deduce();
        Edges.due("proof()", x.proof(), 1);
        x.plant(57, 0);
        Edges.due("proof(), planted", x.proof(), 0);
    }

    @Edges.Says("17: from what ORIENTED tell now: a SIGN that is KNOWN without its ROW is not TOLD by it")
    static void p17OrientedSince() {
        for (int sign = -1; sign <= 1; sign += 2) {
            ConfigSearch x = pencil(0);
            x.deduce();
            Edges.orientAll(x, 1, 2, 3, sign);
            Edges.due("proof(), another TRIPLE ORIENTED", x.proof(), 1);
            Edges.orientAll(x, 0, 2, 3, sign);
            Edges.due("proof(), its own TRIPLE ORIENTED", x.proof(), 0);
            x.deduce();
            Edges.due("proof() of ROWS of now", x.proof(), 1);
        }
    }

    @Edges.Says("FOLLOWING: kind 2 is for a SIGN 0 alone: BARRED with 1 or -1 is of kind 0, and ends nothing")
    static void termsBarredNotZero() {
        for (int sign = -1; sign <= 1; sign += 2) {
            ConfigSearch x = Edges.orientAll(Edges.with("abc ade"), 0, 1, 3, 1, 0, 2, 4, sign, 0, 1, 4, 1);
            Edges.barAll(x, 0, 2, 3);
            Edges.due("deduce()", x.deduce(), 1);
            Edges.rowIs(x, 0, 0, 0, 1, 2, 3, 4, 0, 2, 3, sign);
            Edges.due("proof()", x.proof(), 1);
        }
    }

    @Edges.Says("17: from what BARRED tell now: a SIGN that is not 0 is of kind 0 all the same")
    static void p17BarredSince() {
        ConfigSearch x = pencil(0);
        x.deduce();
        x.bar(0, 2, 3);
        Edges.due("proof()", x.proof(), 1);
        Edges.due("row(0, 0)", x.row(0, 0), 0);
        x.deduce();
        Edges.due("row(0, 0) anew", x.row(0, 0), 0);
        x.plant(0, 0);
        Edges.due("row(0, 0), its SIGN 0", x.row(0, 0), 0);
        Edges.due("proof(), its SIGN 0", x.proof(), 0);
    }

    // Promise 18

    @Edges.Says("18: BAD")
    static void p18Bad() {
        ConfigSearch x = pencil(0);
        int[][] calls = {{0, 0, 1}, {0, 1, 0}, {1, 0, 0}, {3, 3, 3}, {-1, 0, 1}, {0, -1, 1}, {0, 1, -1}, {5, 0, 1}, {0, 5, 1}, {0, 1, 5},
            {MIN, 0, 1}, {0, MAX, 1}, {0, 1, MIN}, {9, 8, 7}, {10, 11, 12}};
        for (int[] call : calls) {
            Edges.due("known(" + call[0] + ", " + call[1] + ", " + call[2] + ")", x.known(call[0], call[1], call[2]), BAD);
        }
        Edges.due("known(4, 3, 2)", x.known(4, 3, 2), NONE);
        Edges.due("known(0, 1, 2) of a new object", new ConfigSearch().known(0, 1, 2), BAD);
    }

    private static void knownInEachOrder(ConfigSearch x, int[] t, int sign) {
        for (int order = 0; order < 6; order++) {
            int[] o = Edges.ORDERS[order];
            int due = sign == NONE ? NONE : sign * Edges.turn(order);
            Edges.due("known() in order " + order, x.known(t[o[0]], t[o[1]], t[o[2]]), due);
        }
    }

    @Edges.Says("18: for a TRIPLE in another order the SIGN turns with each exchange of two; 0 and NONE do not")
    static void p18Orders() {
        ConfigSearch x = Edges.orientAll(Edges.with("abcd efg hij"), 0, 1, 4, 1, 9, 5, 2, 1);
        knownInEachOrder(x, new int[] {0, 1, 4}, 1);
        knownInEachOrder(x, new int[] {2, 5, 9}, -1);
        knownInEachOrder(x, new int[] {0, 2, 3}, 0);
        knownInEachOrder(x, new int[] {7, 8, 9}, 0);
        knownInEachOrder(x, new int[] {0, 1, 5}, NONE);
        knownInEachOrder(x, new int[] {6, 7, 9}, NONE);
    }

    @Edges.Says("18: else NONE")
    static void p18None() {
        ConfigSearch x = Edges.with("abc ade");
        Edges.due("known(1, 2, 3)", x.known(1, 2, 3), NONE);
        x.bar(1, 2, 3);
        Edges.due("known(1, 2, 3), BARRED", x.known(1, 2, 3), NONE);
        x.realise(7, 20000);
        Edges.due("known(1, 2, 3) beside A PICTURE", x.known(1, 2, 3), NONE);
    }

    @Edges.Says("18: by ROWS, too: the last of it ahead of all, then ORIENTED")
    static void p18Rows() {
        ConfigSearch x = pencil(0);
        x.deduce();
        knownInEachOrder(x, new int[] {0, 2, 3}, 1);
        for (int v = -1; v <= 1; v++) {
            x.plant(0, v);
            knownInEachOrder(x, new int[] {0, 2, 3}, v);
        }
        x.plant(0, -1);
        Edges.orientAll(x, 0, 2, 3, 1);
        knownInEachOrder(x, new int[] {0, 2, 3}, -1);
        x.plant(0, 0);
        knownInEachOrder(x, new int[] {0, 2, 3}, 0);
        x.deduce();
        Edges.due("count(4), it is ORIENTED now", x.count(4), 0);
        knownInEachOrder(x, new int[] {0, 2, 3}, 1);
    }

    @Edges.Says("18: then FLAT: 0")
    static void p18Flat() {
        ConfigSearch x = Edges.with("abcde afg");
        for (int c = 2; c < 5; c++) {
            for (int b = 1; b < c; b++) {
                for (int a = 0; a < b; a++) {
                    Edges.due("known(" + a + ", " + b + ", " + c + ")", x.known(a, b, c), 0);
                }
            }
        }
        Edges.due("known(0, 5, 6)", x.known(0, 5, 6), 0);
        Edges.due("known(1, 5, 6)", x.known(1, 5, 6), NONE);
    }

    // Promise 19

    private static void certificateIs(ConfigSearch x, int... want) {
        for (int j = 0; j < 9; j++) {
            Edges.due("certificate(" + j / 3 + ", " + j % 3 + ")", x.certificate(j / 3, j % 3), want[j]);
        }
    }

    @Edges.Says("19: TERM i (0 to 2): side = 0, 1, 2; BAD")
    static void p19Bad() {
        ConfigSearch x = pencil(0);
        x.deduce();
        for (int wrong : new int[] {-1, 3, 4, MIN, MAX}) {
            Edges.due("certificate(" + wrong + ", 0)", x.certificate(wrong, 0), BAD);
            Edges.due("certificate(0, " + wrong + ")", x.certificate(0, wrong), BAD);
            Edges.due("certificate(" + wrong + ", 2)", x.certificate(wrong, 2), BAD);
            Edges.due("certificate(2, " + wrong + ")", x.certificate(2, wrong), BAD);
        }
    }

    @Edges.Says("19: STATE: no ROWS; BAD is ahead")
    static void p19State() {
        for (ConfigSearch x : new ConfigSearch[] {new ConfigSearch(), pencil(0), pencil(1)}) {
            for (int time = 0; time < 2; time++) {
                for (int j = 0; j < 9 && x.count(4) == 0; j++) {
                    Edges.due("certificate(" + j / 3 + ", " + j % 3 + ")", x.certificate(j / 3, j % 3), STATE);
                }
                Edges.due("certificate(3, 0)", x.certificate(3, 0), BAD);
                Edges.due("certificate(-1, 0)", x.certificate(-1, 0), BAD);
                Edges.due("certificate(0, 3)", x.certificate(0, 3), BAD);
                Edges.due("certificate(0, -1)", x.certificate(0, -1), BAD);
                x.deduce();
            }
        }
    }

    @Edges.Says("19: its SIGNS by what is KNOWN; 2 their product, turned as told")
    static void p19Terms() {
        ConfigSearch broken = pencil(-1);
        broken.deduce();
        certificateIs(broken, 0, 0, 0, 1, 1, -1, 1, -1, -1);
        ConfigSearch told = pencil(0);
        told.deduce();
        certificateIs(told, 0, 0, 0, 1, 1, -1, 1, 1, 1);
        told.plant(0, -1);
        certificateIs(told, 0, 0, 0, 1, 1, -1, 1, -1, -1);
        told.plant(0, 0);
        certificateIs(told, 0, 0, 0, 1, 1, -1, 1, 0, 0);
        ConfigSearch high = Edges.orientAll(Edges.with("abc dec"), 0, 2, 3, 1, 1, 2, 4, 1, 0, 2, 4, 1);
        high.deduce();
        certificateIs(high, 0, 0, 0, -1, -1, -1, -1, -1, 1);
    }

    @Edges.Says("19: each of 64 ways to have SIGNS, TERM by TERM")
    static void p19EachWay() {
        for (int[] r : RELATIONS) {
            for (int signs = 0; signs < 64; signs++) {
                ConfigSearch x = relation(r, signs, -1);
                if (x.deduce() != 0) {
                    continue;
                }
                for (int n = 0; n < 3; n++) {
                    Edges.due("certificate(" + n + ", 0)", x.certificate(n, 0), bit(signs, 2 * n));
                    Edges.due("certificate(" + n + ", 1)", x.certificate(n, 1), bit(signs, 2 * n + 1));
                    Edges.due("certificate(" + n + ", 2)", x.certificate(n, 2), term(signs, n));
                }
            }
        }
    }

    @Edges.Says("19: of the last ROW, not of the first")
    static void p19LastRow() {
        ConfigSearch x = backwards();
        certificateIs(x, 1, -1, -1, -1, -1, -1, 1, 1, 1);
        x.plant(0, 1);
        certificateIs(x, 1, -1, -1, 1, -1, 1, 1, 1, 1);
    }
}
