/** Edges of what is told of TRIPLES: promises 6 and 7. */
public final class TripleEdges {
    private static final int BAD = Edges.BAD, STATE = Edges.STATE, FULL = Edges.FULL, MIN = Edges.MIN, MAX = Edges.MAX;
    private static final int[][] NO_TRIPLES = {
        {3, 3, 0}, {3, 0, 3}, {0, 3, 3}, {4, 4, 4}, {-1, 0, 3}, {0, -1, 3}, {0, 3, -1}, {10, 0, 3}, {0, 10, 3}, {0, 3, 10},
        {MIN, 0, 3}, {0, MIN, 3}, {0, 3, MIN}, {MAX, 0, 3}, {0, MAX, 3}, {0, 3, MAX}, {-1, -2, -3}, {11, 12, 13}};

    public static void main(String[] args) throws Exception {
        Edges.run(TripleEdges.class);
    }

    /** Ten POINTS; 109 TRIPLES of them are not FLAT. */
    private static ConfigSearch ten() {
        return Edges.with("abc defgh hij");
    }

    /** The n-th of 21 TRIPLES of ten() that are not FLAT: two of the first LINE and one POINT off it. */
    private static int[] triple(int n) {
        return new int[] {n / 7, (n / 7 + 1) % 3, 3 + n % 7};
    }

    private static ConfigSearch withBarred(int many) {
        ConfigSearch x = ten();
        for (int n = 0; n < many; n++) {
            int[] t = triple(n);
            Edges.due("bar() number " + n, x.bar(t[0], t[1], t[2]), n + 1);
        }
        return x;
    }

    private static ConfigSearch withOriented(int many) {
        ConfigSearch x = ten();
        for (int n = 0; n < many; n++) {
            int[] t = triple(n);
            Edges.due("orient() number " + n, x.orient(t[0], t[1], t[2], 1 - 2 * (n & 1)), n + 1);
        }
        return x;
    }

    private static int barIn(ConfigSearch x, int[] t, int[] order) {
        return x.bar(t[order[0]], t[order[1]], t[order[2]]);
    }

    private static int orientIn(ConfigSearch x, int[] t, int[] order, int sign) {
        return x.orient(t[order[0]], t[order[1]], t[order[2]], sign);
    }

    // Promise 6

    @Edges.Says("6: BAD: no TRIPLE: POINTS alike, too small, too large")
    static void p06Bad() {
        ConfigSearch x = ten();
        for (int[] t : NO_TRIPLES) {
            Edges.due("bar(" + t[0] + ", " + t[1] + ", " + t[2] + ")", x.bar(t[0], t[1], t[2]), BAD);
        }
        Edges.due("count(2)", x.count(2), 0);
        Edges.due("bar(9, 0, 8), the last POINT", x.bar(9, 0, 8), 1);
    }

    @Edges.Says("6: POINTS are those of THE TEXT, not ten always")
    static void p06FewPoints() {
        ConfigSearch x = Edges.with("abc ade");
        Edges.due("bar(0, 1, 5)", x.bar(0, 1, 5), BAD);
        Edges.due("bar(0, 1, 4)", x.bar(0, 1, 4), 1);
    }

    @Edges.Says("6: STATE: it is FLAT")
    static void p06Flat() {
        ConfigSearch x = ten();
        for (int[] order : Edges.ORDERS) {
            Edges.due("bar() of a word of three", barIn(x, new int[] {0, 1, 2}, order), STATE);
        }
        for (int c = 5; c < 8; c++) {
            for (int b = 4; b < c; b++) {
                for (int a = 3; a < b; a++) {
                    Edges.due("bar(" + a + ", " + b + ", " + c + ") of a word of five", x.bar(b, c, a), STATE);
                }
            }
        }
        Edges.due("bar(9, 7, 8) of the last word", x.bar(9, 7, 8), STATE);
        Edges.due("count(2)", x.count(2), 0);
        Edges.due("bar(6, 7, 8) of two words", x.bar(6, 7, 8), 1);
    }

    @Edges.Says("6: how many are: as sets of POINTS")
    static void p06HowMany() {
        ConfigSearch x = withBarred(3);
        for (int[] order : Edges.ORDERS) {
            Edges.due("bar() of the first again", barIn(x, triple(0), order), 3);
            Edges.due("bar() of the last again", barIn(x, triple(2), order), 3);
        }
        Edges.due("count(2)", x.count(2), 3);
    }

    @Edges.Says("6: FULL (20 at most)")
    static void p06Full() {
        ConfigSearch x = withBarred(20);
        int[] t = triple(20);
        for (int[] order : Edges.ORDERS) {
            Edges.due("bar() number 21", barIn(x, t, order), FULL);
        }
        Edges.due("bar(7, 0, 9)", x.bar(7, 0, 9), FULL);
        Edges.due("count(2)", x.count(2), 20);
    }

    @Edges.Says("6: FULL (not if it was)")
    static void p06FullNotIfItWas() {
        ConfigSearch x = withBarred(20);
        for (int n = 0; n < 20; n++) {
            for (int[] order : Edges.ORDERS) {
                Edges.due("bar() of number " + n + " again", barIn(x, triple(n), order), 20);
            }
        }
    }

    @Edges.Says("6: BAD is ahead of STATE and FULL, STATE ahead of FULL")
    static void p06Order() {
        ConfigSearch x = withBarred(20);
        Edges.due("bar(0, 1, 2)", x.bar(0, 1, 2), STATE);
        Edges.due("bar(0, 1, 10)", x.bar(0, 1, 10), BAD);
        Edges.due("bar(0, 0, 1)", x.bar(0, 0, 1), BAD);
        Edges.due("bar(7, 8, 8)", x.bar(7, 8, 8), BAD);
    }

    @Edges.Says("6: 20 each: ORIENTED ones do not fill it")
    static void p06ApartFromOriented() {
        ConfigSearch x = withOriented(20);
        for (int n = 0; n < 20; n++) {
            int[] t = triple(n);
            Edges.due("bar() number " + n, x.bar(t[0], t[1], t[2]), n + 1);
        }
    }

    // Promise 7

    @Edges.Says("7: BAD: no TRIPLE")
    static void p07Bad() {
        ConfigSearch x = ten();
        for (int[] t : NO_TRIPLES) {
            Edges.due("orient(" + t[0] + ", " + t[1] + ", " + t[2] + ", 1)", x.orient(t[0], t[1], t[2], 1), BAD);
        }
        Edges.due("count(3)", x.count(3), 0);
        Edges.due("orient(0, 1, 5, 1) of five POINTS", Edges.with("abc ade").orient(0, 1, 5, 1), BAD);
        Edges.due("orient(9, 0, 8, 1), the last POINT", x.orient(9, 0, 8, 1), 1);
    }

    @Edges.Says("7: a SIGN (-1, 1); BAD")
    static void p07BadSign() {
        ConfigSearch x = ten();
        for (int sign : new int[] {0, 2, -2, 3, MIN, MAX}) {
            Edges.due("orient(0, 1, 3, " + sign + ")", x.orient(0, 1, 3, sign), BAD);
        }
        Edges.due("orient(0, 1, 3, 1)", x.orient(0, 1, 3, 1), 1);
        Edges.due("orient(0, 1, 4, -1)", x.orient(0, 1, 4, -1), 2);
        Edges.due("orient(0, 1, 3, 0) of an ORIENTED one", x.orient(0, 1, 3, 0), BAD);
    }

    @Edges.Says("7: STATE: it is FLAT")
    static void p07Flat() {
        ConfigSearch x = ten();
        for (int[] order : Edges.ORDERS) {
            Edges.due("orient() of a word of three", orientIn(x, new int[] {0, 1, 2}, order, 1), STATE);
            Edges.due("orient() of a word of five", orientIn(x, new int[] {3, 5, 7}, order, -1), STATE);
        }
        Edges.due("count(3)", x.count(3), 0);
        Edges.due("orient(6, 7, 8, 1) of two words", x.orient(6, 7, 8, 1), 1);
    }

    @Edges.Says("7: STATE: it has the other one")
    static void p07Other() {
        for (int sign = -1; sign <= 1; sign += 2) {
            for (int told = 0; told < 6; told++) {
                ConfigSearch x = ten();
                int[] t = {2, 4, 8};
                Edges.due("orient() as told", orientIn(x, t, Edges.ORDERS[told], sign), 1);
                for (int again = 0; again < 6; again++) {
                    int same = sign * Edges.turn(told) * Edges.turn(again);
                    Edges.due("orient() of the same", orientIn(x, t, Edges.ORDERS[again], same), 1);
                    Edges.due("orient() of the other", orientIn(x, t, Edges.ORDERS[again], -same), STATE);
                }
                Edges.due("count(3)", x.count(3), 1);
                Edges.due("known() is the first", x.known(2, 4, 8), sign * Edges.turn(told));
            }
        }
    }

    @Edges.Says("7: FULL (20 at most)")
    static void p07Full() {
        ConfigSearch x = withOriented(20);
        for (int[] order : Edges.ORDERS) {
            Edges.due("orient() number 21", orientIn(x, triple(20), order, 1), FULL);
            Edges.due("orient() number 21", orientIn(x, triple(20), order, -1), FULL);
        }
        Edges.due("count(3)", x.count(3), 20);
    }

    @Edges.Says("7: FULL (not if it had it)")
    static void p07FullNotIfItHadIt() {
        ConfigSearch x = withOriented(20);
        for (int n = 0; n < 20; n++) {
            for (int order = 0; order < 6; order++) {
                int sign = (1 - 2 * (n & 1)) * Edges.turn(order);
                Edges.due("orient() of number " + n + " again", orientIn(x, triple(n), Edges.ORDERS[order], sign), 20);
            }
        }
    }

    @Edges.Says("7: BAD is ahead of STATE and FULL, STATE ahead of FULL")
    static void p07Order() {
        ConfigSearch x = withOriented(20);
        Edges.due("orient() of the other", x.orient(0, 1, 3, -1), STATE);
        Edges.due("orient(0, 1, 2, 1)", x.orient(0, 1, 2, 1), STATE);
        Edges.due("orient(0, 1, 2, 0)", x.orient(0, 1, 2, 0), BAD);
        Edges.due("orient(7, 8, 0, 2)", x.orient(7, 8, 0, 2), BAD);
        Edges.due("orient(7, 8, 10, 1)", x.orient(7, 8, 10, 1), BAD);
    }

    @Edges.Says("7: 20 each: BARRED ones do not fill it, and have no SIGN")
    static void p07ApartFromBarred() {
        ConfigSearch x = withBarred(20);
        Edges.due("known() of a BARRED one", x.known(0, 1, 3), Edges.NONE);
        for (int n = 0; n < 20; n++) {
            int[] t = triple(n);
            Edges.due("orient() number " + n, x.orient(t[0], t[1], t[2], -1), n + 1);
        }
    }

    @Edges.Says("7: ROWS, THE PICTURE stay, by bar() too")
    static void p07RowsAndPictureStay() {
        ConfigSearch x = Edges.with("abc ade");
        Edges.orientAll(x, 0, 1, 3, 1, 0, 2, 4, 1, 0, 1, 4, 1);
        Edges.due("realise(5, 20000)", x.realise(5, 20000), 1);
        Edges.due("deduce()", x.deduce(), 1);
        int[] places = new int[5];
        for (int point = 0; point < 5; point++) {
            places[point] = x.coordinate(point, 3);
        }
        int steps = x.count(5);
        Edges.due("orient(1, 2, 3, 1)", x.orient(1, 2, 3, 1), 4);
        Edges.due("bar(1, 2, 4)", x.bar(1, 2, 4), 1);
        Edges.placesAre(x, places);
        Edges.due("count(5)", x.count(5), steps);
        Edges.due("count(4)", x.count(4), 1);
        Edges.due("count(7)", x.count(7), 1);
        Edges.rowIs(x, 0, 0, 0, 1, 2, 3, 4, 0, 2, 3, 1);
    }

    @Edges.Says("7: a SIGN that a ROW tells is not yet one that a TRIPLE has by orient()")
    static void p07BesideARow() {
        ConfigSearch x = Edges.with("abc ade");
        Edges.orientAll(x, 0, 1, 3, 1, 0, 2, 4, 1, 0, 1, 4, 1);
        Edges.due("deduce()", x.deduce(), 1);
        Edges.due("known(0, 2, 3) by the ROW", x.known(0, 2, 3), 1);
        Edges.due("orient(0, 2, 3, -1)", x.orient(0, 2, 3, -1), 4);
    }
}
