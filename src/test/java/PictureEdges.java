/** Edges of PLACES, THE SEARCH and THE PICTURE: the terms' second part, promises 8 to 13. */
public final class PictureEdges {
    private static final int BAD = Edges.BAD, STATE = Edges.STATE, NONE = Edges.NONE, MIN = Edges.MIN, MAX = Edges.MAX;
    private static final int THROWN = Edges.THROWN;

    public static void main(String[] args) throws Exception {
        Edges.run(PictureEdges.class);
    }

    /** What is told, the FIELD, and the PLACES that THE SEARCH comes to. */
    private record Found(int field, String text, int[] bars, int[] places) {
        ConfigSearch search() {
            ConfigSearch x = Edges.barAll(Edges.with(text), bars);
            Edges.due("realise(" + field + ", 20000) of '" + text + "'", x.realise(field, 20000), 1);
            return x;
        }
    }

    private static Found found(int field, String text, int[] bars, int... places) {
        return new Found(field, text, bars, places);
    }

    private static int[] bars(int... told) {
        return told;
    }

    /** Together they have the first and the last PLACE of each sort that the document tells. */
    private static final Found[] FOUND = {
        found(0, "acb eihdg fgb", bars(3, 2, 8, 7, 8, 4, 5, 3, 2, 7, 4, 2, 5, 0, 6), 0, 1, 2, 3, 8, 18, 23, 13, 24),
        found(0, "ecfhi dega fab", bars(6, 4, 7, 6, 4, 8, 7, 3, 1), 0, 1, 2, 3, 4, 5, 10, 20, 11),
        found(2, "dab beh fib", bars(2, 3, 5, 2, 4, 0), 0, 1, 2, 3, 6, 4, 5),
        found(3, "cjfi adj egi hcb", bars(8, 9, 5, 3, 6, 0, 0, 5, 4, 8, 1, 5, 4, 3, 8, 3, 1, 4, 6, 2, 0, 8, 2, 7),
            0, 1, 2, 3, 4, 7, 6, 10, 12, 11),
        found(5, "djh fdc hai ehb abc ajf", bars(), 0, 1, 2, 6, 7, 11, 10, 3, 5),
        found(5, "fai bcd ijc gdh jab", bars(8, 2, 0, 4, 7, 3), 0, 1, 2, 6, 7, 8, 26, 3, 15),
        found(5, "aig ihj edb ghb eah", bars(3, 4, 5, 3, 1, 6, 5, 4, 2), 0, 1, 2, 6, 11, 7, 3, 30),
        found(7, "dge gca abe cdb bhg fhd hec", bars(7, 3, 6, 2, 7, 5), 0, 1, 2, 8, 15, 14, 56, 50),
        found(7, "bfg cfi dihe dab afe", bars(4, 1, 0, 4, 2, 6), 0, 1, 2, 8, 15, 9, 7, 28, 14),
        found(11, "fdc baj cji cae hfe ieb", bars(1, 2, 6, 2, 0, 8), 0, 1, 2, 3, 12, 25, 13, 132, 122),
        found(11, "ghe fdh ebd aid bfa cgd", bars(3, 0, 1), 0, 1, 2, 12, 23, 22, 13, 11, 24),
        found(13, "fde adc cbe aeg dgb", bars(3, 1, 0, 2, 6, 1, 6, 0, 5, 3, 5, 2), 0, 1, 2, 14, 27, 26, 182),
        found(13, "bgj gfc hac", bars(2, 1, 5, 2, 1, 3, 3, 6, 1), 0, 1, 2, 14, 27, 15, 13),
        found(13, "agd ahb cfbd hgf", bars(0, 4, 2, 0, 2, 5, 5, 6, 3, 4, 2, 1), 0, 1, 2, 14, 15, 29, 170)};

    private static int sizeOf(int field) {
        return field == 0 ? 25 : field * field + field + 1;
    }

    private static int[] place(int field, int k) {
        if (field == 0) {
            return new int[] {1, k / 5, k % 5};
        }
        if (k == 0) {
            return new int[] {0, 0, 1};
        }
        return k <= field ? new int[] {0, 1, k - 1} : new int[] {1, (k - field - 1) / field, (k - field - 1) % field};
    }

    private static int value(int field, int i, int j, int k) {
        int[] u = place(field, i), v = place(field, j), w = place(field, k);
        int value = u[0] * (v[1] * w[2] - v[2] * w[1]) - u[1] * (v[0] * w[2] - v[2] * w[0]) + u[2] * (v[0] * w[1] - v[1] * w[0]);
        return field == 0 ? value : Math.floorMod(value, field);
    }

    // PLACES, A PICTURE, THE SEARCH

    @Edges.Says("PLACES of a FIELD: of 0, THE GRID, 0 to 24; of a prime p 0; 1 to p; p + 1 to p p + p")
    static void termsPlaces() {
        for (Found f : FOUND) {
            ConfigSearch x = f.search();
            Edges.placesAre(x, f.places());
            for (int point = 0; point < f.places().length; point++) {
                int[] numbers = place(f.field(), f.places()[point]);
                for (int i = 0; i < 3; i++) {
                    Edges.due("coordinate(" + point + ", " + i + ") of '" + f.text() + "'", x.coordinate(point, i), numbers[i]);
                }
            }
        }
    }

    @Edges.Says("PLACES: the last ones, by their numbers")
    static void termsLastPlaces() {
        ConfigSearch grid = FOUND[0].search();
        int[] last = {1, 4, 4, 24};
        int[] first = {1, 0, 0, 0};
        int[] last13 = {1, 12, 12, 182};
        int[] first13 = {0, 0, 1, 0};
        int[] lastShort = {0, 1, 12, 13};
        int[] firstLong = {1, 0, 0, 14};
        for (int i = 0; i < 4; i++) {
            Edges.due("the GRID's last, " + i, grid.coordinate(8, i), last[i]);
            Edges.due("the GRID's first, " + i, grid.coordinate(0, i), first[i]);
            Edges.due("13's last, " + i, FOUND[11].search().coordinate(6, i), last13[i]);
            Edges.due("13's first, " + i, FOUND[11].search().coordinate(0, i), first13[i]);
            Edges.due("13's number p, " + i, FOUND[12].search().coordinate(6, i), lastShort[i]);
            Edges.due("13's number p + 1, " + i, FOUND[12].search().coordinate(3, i), firstLong[i]);
        }
    }

    @Edges.Says("VALUE over a prime is its rest: a multiple of p is 0")
    static void termsRest() {
        // over 2 one LINE of seven has VALUE 2 or -2
        ConfigSearch fano = Edges.barAll(Edges.with(Edges.FANO), 0, 1, 3);
        Edges.due("realise(2, 20000)", fano.realise(2, 20000), 1);
        Edges.placesAre(fano, 0, 1, 2, 3, 4, 5, 6);
        // six of those LINES: over 2 c, e, f lie on the seventh of themselves, over 3 they never do
        String six = "abc ade afg bdf beg cdg";
        Edges.due("realise(2, 20000), cef BARRED", Edges.barAll(Edges.with(six), 0, 1, 3, 2, 4, 5).realise(2, 20000), 0);
        ConfigSearch oriented = Edges.barAll(Edges.with(six), 0, 1, 3);
        Edges.orientAll(oriented, 2, 4, 5, 1);
        Edges.due("realise(2, 20000), cef ORIENTED", oriented.realise(2, 20000), 0);
        Edges.due("realise(3, 20000), cef BARRED", Edges.barAll(Edges.with(six), 0, 1, 3, 2, 4, 5).realise(3, 20000), 1);
    }

    @Edges.Says("A PICTURE gives each POINT a PLACE, unlike ones")
    static void termsUnlike() {
        for (int p : Edges.PRIMES) {
            ConfigSearch x = Edges.with("abc def");
            // over 2 any two lines meet in one of their three PLACES
            Edges.due("realise(" + p + ", 20000)", x.realise(p, 20000), p == 2 ? 0 : 1);
            for (int one = 0; one < 6 && p > 2; one++) {
                for (int other = 0; other < one; other++) {
                    Edges.due("unlike PLACES", x.coordinate(one, 3) != x.coordinate(other, 3));
                }
            }
        }
        ConfigSearch grid = Edges.with("abc def");
        Edges.due("realise(0, 20000)", grid.realise(0, 20000), 1);
        // with e at 4 the row of d and e has no PLACE left
        Edges.placesAre(grid, 0, 1, 2, 3, 7, 11);
    }

    @Edges.Says("A PICTURE: a line over p has p + 1 PLACES, one on THE GRID 5: no LINE has more POINTS")
    static void termsLineFull() {
        ConfigSearch three = Edges.with("abc");
        Edges.due("realise(2, 20000) of three", three.realise(2, 20000), 1);
        Edges.placesAre(three, 0, 1, 2);
        Edges.due("realise(2, 20000) of four", Edges.with("abcd").realise(2, 20000), 0);
        ConfigSearch four = Edges.with("abcd");
        Edges.due("realise(3, 20000) of four", four.realise(3, 20000), 1);
        Edges.placesAre(four, 0, 1, 2, 3);
        Edges.due("realise(3, 20000) of five", Edges.with("abcde").realise(3, 20000), 0);
        ConfigSearch five = Edges.with("abcde");
        for (int field : new int[] {0, 5, 7, 11, 13}) {
            Edges.due("realise(" + field + ", 20000) of five", five.realise(field, 20000), 1);
            Edges.placesAre(five, 0, 1, 2, 3, 4);
        }
    }

    @Edges.Says("A PICTURE: of each BARRED one VALUE is not 0: below 0 and above 0 both go")
    static void termsBarred() {
        ConfigSearch below = Edges.barAll(Edges.with("abc ade"), 0, 1, 3);
        Edges.due("realise(0, 20000)", below.realise(0, 20000), 1);
        Edges.placesAre(below, 0, 1, 2, 5, 10);
        Edges.due("its VALUE", value(0, 0, 1, 5), -1);
        Edges.orientAll(below, 0, 3, 1, 1);
        Edges.due("check() of one below 0", below.check(), 1);
        ConfigSearch above = Edges.barAll(Edges.with("abc ade"), 0, 1, 3);
        Edges.orientAll(above, 0, 1, 3, 1);
        Edges.due("realise(0, 20000), above 0", above.realise(0, 20000), 1);
        Edges.due("its VALUE is above 0", value(0, above.coordinate(0, 3), above.coordinate(1, 3), above.coordinate(3, 3)) > 0);
    }

    @Edges.Says("A PICTURE: on THE GRID of an ORIENTED one (as it was told) VALUE has its SIGN")
    static void termsOriented() {
        for (int order = 0; order < 6; order++) {
            for (int sign = -1; sign <= 1; sign += 2) {
                ConfigSearch x = Edges.with("abc ade");
                int[] t = {0, 1, 3};
                int[] o = Edges.ORDERS[order];
                Edges.orientAll(x, t[o[0]], t[o[1]], t[o[2]], sign);
                Edges.due("realise(0, 20000)", x.realise(0, 20000), 1);
                int told = value(0, x.coordinate(t[o[0]], 3), x.coordinate(t[o[1]], 3), x.coordinate(t[o[2]], 3));
                Edges.due("SIGN of VALUE", Integer.signum(told), sign);
                if (sign * Edges.turn(order) < 0) {
                    Edges.placesAre(x, 0, 1, 2, 5, 10);
                } else {
                    Edges.placesAre(x, 0, 5, 10, 1, 2);
                }
            }
        }
    }

    @Edges.Says("A PICTURE: over a prime VALUE of an ORIENTED one is not 0, whatever its SIGN")
    static void termsOrientedOverAPrime() {
        for (int p : Edges.PRIMES) {
            for (int sign = -1; sign <= 1; sign += 2) {
                ConfigSearch x = Edges.orientAll(Edges.with("abc ade"), 0, 1, 3, sign);
                Edges.due("realise(" + p + ", 20000)", x.realise(p, 20000), 1);
                Edges.due("coordinate(3, 3), the first off the line", x.coordinate(3, 3), p + 1);
            }
        }
    }

    @Edges.Says("THE SEARCH: then the next POINT tries from 0 on; each try is a STEP")
    static void termsSteps() {
        for (int field : new int[] {0, 2, 3, 5, 7, 11, 13}) {
            ConfigSearch x = Edges.with("abc");
            Edges.due("realise(" + field + ", 20000)", x.realise(field, 20000), 1);
            Edges.due("1 + 2 + 3 STEPS", x.count(5), 6);
        }
        ConfigSearch five = Edges.with("abcde");
        five.realise(13, 20000);
        Edges.due("1 + 2 + 3 + 4 + 5 STEPS", five.count(5), 15);
    }

    @Edges.Says("THE SEARCH: if a POINT has tried all, the one before it tries on")
    static void termsBack() {
        // e wants two PLACES off 0, 1 and in line with d: over 2 the first d does, e comes to 4
        ConfigSearch x = Edges.barAll(Edges.with("abc ade"), 0, 1, 3);
        Edges.due("realise(2, 20000)", x.realise(2, 20000), 1);
        Edges.placesAre(x, 0, 1, 2, 3, 4);
        Edges.due("1 + 2 + 3 + 4 + 5 STEPS", x.count(5), 15);
        // above 0 no d goes with b at 1 to 4: c and d try all 25 in vain, then b is at 5
        ConfigSearch y = Edges.orientAll(Edges.with("abc ade"), 0, 1, 3, 1);
        Edges.due("realise(0, 20000)", y.realise(0, 20000), 1);
        // a 1; b 6; for b at 1 to 4: c 25 each and d 25 for each of 3 c's; for b at 5: c to 10, d to 1, e to 2
        Edges.due("its STEPS", y.count(5), 1 + 6 + 4 * 25 + 4 * 3 * 25 + 11 + 2 + 3);
    }

    @Edges.Says("THE SEARCH: without one before it THE SEARCH ends")
    static void termsEnd() {
        ConfigSearch two = Edges.with("abcd");
        Edges.due("realise(2, 20000)", two.realise(2, 20000), 0);
        Edges.due("7 + 7 7 + 42 7 + 42 7 STEPS", two.count(5), 644);
        ConfigSearch three = Edges.with("abcde");
        Edges.due("realise(3, 20000)", three.realise(3, 20000), 0);
        Edges.due("13 + 13 13 + 156 13 + 312 13 + 312 13 STEPS", three.count(5), 10322);
    }

    // Promise 8

    @Edges.Says("8: BAD: no FIELD")
    static void p08BadField() {
        ConfigSearch x = Edges.with("abc");
        for (int field = -14; field <= 30; field++) {
            boolean is = field == 0 || field == 2 || field == 3 || field == 5 || field == 7 || field == 11 || field == 13;
            Edges.due("realise(" + field + ", 6)", x.realise(field, 6), is ? 1 : BAD);
        }
        for (int field : new int[] {MIN, MAX, 256, 65536 + 7, 97}) {
            Edges.due("realise(" + field + ", 6)", x.realise(field, 6), BAD);
        }
    }

    @Edges.Says("8: of 1 to 20000 STEPS; BAD")
    static void p08BadSteps() {
        ConfigSearch x = Edges.with("abc");
        for (int steps : new int[] {0, -1, 20001, 20002, MIN, MAX}) {
            Edges.due("realise(0, " + steps + ")", x.realise(0, steps), BAD);
            Edges.due("realise(7, " + steps + ")", x.realise(7, steps), BAD);
        }
        Edges.due("realise(0, 1)", x.realise(0, 1), 2);
        Edges.due("count(5)", x.count(5), 1);
        Edges.due("realise(0, 20000)", x.realise(0, 20000), 1);
    }

    @Edges.Says("8: STATE: no LINES; BAD is ahead")
    static void p08State() {
        ConfigSearch x = new ConfigSearch();
        Edges.due("realise(0, 1)", x.realise(0, 1), STATE);
        Edges.due("realise(13, 20000)", x.realise(13, 20000), STATE);
        Edges.due("realise(4, 1)", x.realise(4, 1), BAD);
        Edges.due("realise(0, 0)", x.realise(0, 0), BAD);
        Edges.due("realise(0, 20001)", x.realise(0, 20001), BAD);
        Edges.tell(x, "abc ab");
        Edges.due("realise(0, 1) behind a FAULT", x.realise(0, 1), STATE);
    }

    @Edges.Says("8: 1: A PICTURE is found, if with the very last STEP")
    static void p08FoundWithTheLastStep() {
        ConfigSearch x = Edges.with("abc");
        for (int steps = 1; steps < 6; steps++) {
            Edges.due("realise(0, " + steps + ")", x.realise(0, steps), 2);
            Edges.due("count(5)", x.count(5), steps);
            Edges.due("check()", x.check(), STATE);
        }
        Edges.due("realise(0, 6)", x.realise(0, 6), 1);
        Edges.due("count(5)", x.count(5), 6);
        Edges.due("check()", x.check(), 1);
        Edges.due("realise(0, 7)", x.realise(0, 7), 1);
        Edges.due("count(5) of what is needed alone", x.count(5), 6);
    }

    @Edges.Says("8: 0: it came to its end, if with the very last STEP")
    static void p08EndWithTheLastStep() {
        ConfigSearch x = Edges.with("abcd");
        Edges.due("realise(2, 643)", x.realise(2, 643), 2);
        Edges.due("count(5)", x.count(5), 643);
        Edges.due("realise(2, 644)", x.realise(2, 644), 0);
        Edges.due("count(5)", x.count(5), 644);
        Edges.due("realise(2, 645)", x.realise(2, 645), 0);
        Edges.due("count(5)", x.count(5), 644);
        ConfigSearch y = Edges.with("abcde");
        Edges.due("realise(3, 10321)", y.realise(3, 10321), 2);
        Edges.due("realise(3, 10322)", y.realise(3, 10322), 0);
    }

    @Edges.Says("8: 2: it would need more, of 20000, too")
    static void p08NeedsMore() {
        ConfigSearch x = Edges.barAll(Edges.with(Edges.FANO), 0, 1, 3);
        for (int steps : new int[] {1, 2, 19999, 20000}) {
            Edges.due("realise(3, " + steps + ")", x.realise(3, steps), 2);
            Edges.due("count(5)", x.count(5), steps);
        }
    }

    @Edges.Says("8: it is THE PICTURE: of the latest realise()")
    static void p08TheLatest() {
        ConfigSearch x = Edges.with("abc ade");
        Edges.due("realise(0, 20000)", x.realise(0, 20000), 1);
        Edges.due("coordinate(0, 0) on THE GRID", x.coordinate(0, 0), 1);
        Edges.due("realise(7, 20000)", x.realise(7, 20000), 1);
        Edges.due("coordinate(0, 0) over 7", x.coordinate(0, 0), 0);
        Edges.barAll(x, 0, 1, 3);
        Edges.due("realise(7, 20000) anew", x.realise(7, 20000), 1);
        Edges.placesAre(x, 0, 1, 2, 8, 9);
    }

    @Edges.Says("8: 0, 2: there is no PICTURE")
    static void p08NoPicture() {
        for (int outcome = 0; outcome <= 2; outcome += 2) {
            ConfigSearch x = Edges.with("abcd");
            Edges.due("realise(3, 20000)", x.realise(3, 20000), 1);
            Edges.due("check() of the old one", x.check(), 1);
            Edges.due("realise() in vain", x.realise(2, outcome == 0 ? 644 : 643), outcome);
            Edges.due("check()", x.check(), STATE);
            Edges.due("coordinate(0, 0)", x.coordinate(0, 0), STATE);
        }
    }

    @Edges.Says("8: a realise() that is refused leaves THE PICTURE")
    static void p08RefusedLeaves() {
        ConfigSearch x = Edges.barAll(Edges.with("abc ade"), 0, 1, 3);
        x.realise(7, 20000);
        for (int[] call : new int[][] {{0, 0}, {0, 20001}, {4, 5}, {-7, 5}, {MAX, MAX}}) {
            Edges.due("realise(" + call[0] + ", " + call[1] + ")", x.realise(call[0], call[1]), BAD);
            Edges.placesAre(x, 0, 1, 2, 8, 9);
            Edges.bothMeet(x, 0, 1, 0);
        }
    }

    // Promise 9

    @Edges.Says("9: BAD: no such POINT")
    static void p09NoSuchPoint() {
        ConfigSearch x = Edges.with("abc ade");
        x.realise(7, 20000);
        for (int point : new int[] {-1, 5, 9, 10, MIN, MAX}) {
            for (int i = 0; i < 4; i++) {
                Edges.due("coordinate(" + point + ", " + i + ")", x.coordinate(point, i), BAD);
            }
        }
        Edges.due("coordinate(4, 3)", x.coordinate(4, 3), 4);
    }

    @Edges.Says("9: number i (0 to 2), 3 the PLACE's number; BAD")
    static void p09NoSuchNumber() {
        ConfigSearch x = Edges.with("abc ade");
        x.realise(0, 20000);
        for (int i : new int[] {-1, 4, 5, MIN, MAX}) {
            Edges.due("coordinate(0, " + i + ")", x.coordinate(0, i), BAD);
        }
        int[] numbers = {1, 0, 4, 4};
        for (int i = 0; i < 4; i++) {
            Edges.due("coordinate(4, " + i + ")", x.coordinate(4, i), numbers[i]);
        }
    }

    @Edges.Says("9: STATE: none; BAD ahead")
    static void p09State() {
        ConfigSearch x = Edges.with("abc ade");
        Edges.due("coordinate(0, 0)", x.coordinate(0, 0), STATE);
        Edges.due("coordinate(4, 3)", x.coordinate(4, 3), STATE);
        Edges.due("coordinate(5, 0)", x.coordinate(5, 0), BAD);
        Edges.due("coordinate(-1, 0)", x.coordinate(-1, 0), BAD);
        Edges.due("coordinate(0, 4)", x.coordinate(0, 4), BAD);
        Edges.due("coordinate(0, -1)", x.coordinate(0, -1), BAD);
        Edges.due("coordinate(0, 0) of a new object", new ConfigSearch().coordinate(0, 0), BAD);
    }

    // Promise 10

    @Edges.Says("10: STATE: there is none")
    static void p10State() {
        Edges.due("check() of a new object", new ConfigSearch().check(), STATE);
        ConfigSearch x = Edges.with("abcd");
        Edges.due("check()", x.check(), STATE);
        x.realise(2, 20000);
        Edges.due("check() behind 0", x.check(), STATE);
        x.realise(3, 2);
        Edges.due("check() behind 2", x.check(), STATE);
        x.realise(3, 20000);
        Edges.due("check() behind 1", x.check(), 1);
    }

    @Edges.Says("10: by what is told now: BARRED since")
    static void p10Barred() {
        for (int field : new int[] {0, 2, 3, 5, 7, 11, 13}) {
            ConfigSearch x = Edges.barAll(Edges.with("abc ade"), 0, 1, 3);
            x.realise(field, 20000);
            for (int c = 2; c < 5; c++) {
                for (int b = 1; b < c; b++) {
                    for (int a = 0; a < b; a++) {
                        if (x.bar(a, b, c) > 0) {
                            Edges.due("check() of the other TRIPLES, none of which is 0", x.check(), 1);
                        }
                    }
                }
            }
            if (field == 2) {
                continue;
            }
            ConfigSearch y = Edges.with("abc def");
            y.realise(field, 20000);
            int first = value(field, y.coordinate(0, 3), y.coordinate(1, 3), y.coordinate(3, 3));
            y.bar(0, 1, 3);
            Edges.due("check() over " + field, y.check(), first == 0 ? 0 : 1);
        }
    }

    @Edges.Says("10: by what is told now: ORIENTED since, on THE GRID with its SIGN, in each order")
    static void p10OrientedOnTheGrid() {
        for (int order = 0; order < 6; order++) {
            for (int sign = -1; sign <= 1; sign += 2) {
                ConfigSearch x = Edges.barAll(Edges.with("abc ade"), 0, 1, 3);
                x.realise(0, 20000);
                int[] t = {0, 1, 3};
                int[] o = Edges.ORDERS[order];
                Edges.orientAll(x, t[o[0]], t[o[1]], t[o[2]], sign);
                Edges.due("check()", x.check(), sign * Edges.turn(order) < 0 ? 1 : 0);
            }
        }
        ConfigSearch zero = Edges.with("abc ade");
        zero.realise(0, 20000);
        Edges.orientAll(zero, 2, 3, 4, 1);
        Edges.due("check() of one that is 0", zero.check(), 0);
    }

    @Edges.Says("10: by what is told now: ORIENTED since, over a prime not 0")
    static void p10OrientedOverAPrime() {
        for (int p : Edges.PRIMES) {
            for (int sign = -1; sign <= 1; sign += 2) {
                ConfigSearch x = Edges.barAll(Edges.with("abc ade"), 0, 1, 3);
                x.realise(p, 20000);
                Edges.orientAll(x, 0, 1, 3, sign);
                Edges.due("check() of one that is not 0", x.check(), 1);
                ConfigSearch y = Edges.with("abcd aef");
                if (y.realise(p, 20000) == 1 && value(p, y.coordinate(1, 3), y.coordinate(2, 3), y.coordinate(4, 3)) == 0) {
                    Edges.orientAll(y, 1, 2, 4, sign);
                    Edges.due("check() of one that is 0", y.check(), 0);
                }
            }
        }
    }

    // Promises 11 and 12

    @Edges.Says("11, 12: the PLACE that lies on two LINES of THE PICTURE (VALUE 0 with two POINTS of each)")
    static void p11Places() {
        for (Found f : FOUND) {
            if (f.field() == 0) {
                continue;
            }
            ConfigSearch x = f.search();
            int lines = x.count(1);
            int[][] ends = new int[lines][];
            for (int line = 0; line < lines; line++) {
                ends[line] = new int[] {f.places()[x.line(line, 0, false)], f.places()[x.line(line, 2, false)]};
            }
            for (int line = 0; line < lines; line++) {
                for (int other = 0; other < lines; other++) {
                    Edges.bothMeet(x, line, other, line == other ? BAD : placeOnBoth(f.field(), ends[line], ends[other]));
                }
            }
        }
    }

    private static int placeOnBoth(int field, int[] line, int[] other) {
        int only = NONE;
        for (int k = 0; k < sizeOf(field); k++) {
            if (value(field, line[0], line[1], k) == 0 && value(field, other[0], other[1], k) == 0) {
                if (only != NONE) {
                    return THROWN;
                }
                only = k;
            }
        }
        return only;
    }

    @Edges.Says("11, 12: the first PLACE, the last one, and those at the ends of each sort")
    static void p11EndsOfPlaces() {
        // a lies on both: at 0; with b on both at 1; the rest meet where no POINT of both is
        ConfigSearch first = Edges.barAll(Edges.with("abc ade"), 0, 1, 3);
        first.realise(13, 20000);
        Edges.bothMeet(first, 0, 1, 0);
        ConfigSearch second = Edges.barAll(Edges.with("abc dbe"), 0, 1, 3);
        second.realise(13, 20000);
        Edges.bothMeet(second, 0, 1, 1);
        for (int found : new int[] {7, 9, 11}) {
            Found f = FOUND[found];
            ConfigSearch x = f.search();
            int last = f.field() * f.field() + f.field();
            boolean seen = false;
            for (int line = 0; line < x.count(1); line++) {
                for (int other = 0; other < line; other++) {
                    seen |= x.meets(line, other) == last && Edges.meet(x, other, line) == last;
                }
            }
            Edges.due("two LINES of '" + f.text() + "' meet in PLACE " + last, seen);
        }
    }

    @Edges.Says("11, 12: BAD: no such LINES, one and the same")
    static void p11Bad() {
        ConfigSearch x = Edges.barAll(Edges.with("abc ade"), 0, 1, 3);
        x.realise(7, 20000);
        int[][] calls = {{0, 0}, {1, 1}, {-1, 0}, {0, -1}, {2, 0}, {0, 2}, {2, 2}, {-1, -1}, {MIN, 0}, {0, MAX}, {MAX, MIN}, {11, 0}};
        for (int[] call : calls) {
            Edges.bothMeet(x, call[0], call[1], BAD);
        }
        Edges.bothMeet(x, 1, 0, 0);
    }

    @Edges.Says("11, 12: STATE: no PICTURE")
    static void p11NoPicture() {
        ConfigSearch x = Edges.with("abc ade");
        Edges.bothMeet(x, 0, 1, STATE);
        x.realise(7, 20000);
        x.realise(7, 3);
        Edges.bothMeet(x, 0, 1, STATE);
        Edges.bothMeet(x, 1, 1, BAD);
        Edges.bothMeet(x, 0, 2, BAD);
        Edges.bothMeet(x, -1, 0, BAD);
        Edges.bothMeet(new ConfigSearch(), 0, 1, BAD);
    }

    @Edges.Says("11, 12: STATE: on THE GRID")
    static void p11Grid() {
        ConfigSearch x = Edges.barAll(Edges.with("abc ade"), 0, 1, 3);
        x.realise(0, 20000);
        Edges.bothMeet(x, 0, 1, STATE);
        Edges.bothMeet(x, 0, 0, BAD);
        Edges.bothMeet(x, 2, 0, BAD);
        ConfigSearch flat = Edges.with("abc ade");
        flat.realise(0, 20000);
        Edges.bothMeet(flat, 0, 1, STATE);
    }

    @Edges.Says("11: ArithmeticException: the LINES lie on one another; 12: NONE where that throws")
    static void p11OnOneAnother() {
        for (int p : new int[] {5, 7, 11, 13}) {
            ConfigSearch x = Edges.with("abc ade");
            x.realise(p, 20000);
            Edges.bothMeet(x, 0, 1, THROWN);
            Edges.bothMeet(x, 1, 0, THROWN);
            ConfigSearch apart = Edges.with("abc def");
            apart.realise(p, 20000);
            Edges.bothMeet(apart, 0, 1, THROWN);
            Edges.bothMeet(apart, 1, 1, BAD);
        }
        ConfigSearch high = Edges.barAll(Edges.with("abc def fgh"), 0, 1, 3);
        high.realise(3, 20000);
        Edges.due("LINES that meet, not thrown", high.meets(1, 2) >= 0);
    }

    @Edges.Says("11: a throw changes nothing")
    static void p11ThrowChangesNothing() {
        ConfigSearch x = Edges.with("abc ade");
        x.realise(5, 20000);
        ConfigSearch y = Edges.with("abc ade");
        y.realise(5, 20000);
        Edges.due("meet(0, 1)", Edges.meet(x, 0, 1), THROWN);
        Edges.due("pivot(5, 1, 0)", Edges.pivot(x, 5, 1, 0), THROWN);
        Edges.sameText("meet(0, 1), pivot(5, 1, 0)", Edges.probe(x), Edges.probe(y));
    }

    // Promise 13

    @Edges.Says("13: the r of 0 to p - 1 for which r d less v is a multiple of p")
    static void p13Quotients() {
        int[] numbers = {MIN, MIN + 1, -27, -14, -13, -12, -7, -2, -1, 0, 1, 2, 6, 7, 12, 13, 14, 25, 26, 143, MAX - 1, MAX};
        for (int p : Edges.PRIMES) {
            for (int v : numbers) {
                ConfigSearch x = new ConfigSearch();
                for (int d : numbers) {
                    int due = THROWN;
                    for (int r = 0; r < p && Math.floorMod(d, p) != 0; r++) {
                        due = ((long) r * d - v) % p == 0 ? r : due;
                    }
                    Edges.due("pivot(" + p + ", " + v + ", " + d + ")", Edges.pivot(x, p, v, d), due);
                }
            }
        }
    }

    @Edges.Says("13: each v and d of 0 to p - 1")
    static void p13Each() {
        for (int p : Edges.PRIMES) {
            ConfigSearch x = new ConfigSearch();
            for (int d = 1; d < p; d++) {
                for (int r = 0; r < p; r++) {
                    Edges.due("pivot(" + p + ", " + r * d % p + ", " + d + ")", Edges.pivot(x, p, r * d % p, d), r);
                }
            }
        }
    }

    @Edges.Says("13: BAD: p is none of those")
    static void p13Bad() {
        ConfigSearch x = new ConfigSearch();
        for (int p : new int[] {0, 1, 4, 6, 8, 9, 10, 12, 14, 15, 17, 19, 23, -1, -2, -3, -13, MIN, MAX}) {
            Edges.due("pivot(" + p + ", 1, 1)", Edges.pivot(x, p, 1, 1), BAD);
            Edges.due("pivot(" + p + ", 1, 0), BAD ahead of the throw", Edges.pivot(x, p, 1, 0), BAD);
            Edges.due("pivot(" + p + ", 0, " + p + "), BAD ahead of the throw", Edges.pivot(x, p, 0, p), BAD);
        }
    }

    @Edges.Says("13: ArithmeticException: d is a multiple of p")
    static void p13Throws() {
        for (int p : Edges.PRIMES) {
            ConfigSearch x = new ConfigSearch();
            for (int d : new int[] {0, p, -p, 2 * p, -2 * p, p * p, MAX / p * p, MIN / p * p}) {
                for (int v : new int[] {0, 1, -1, p, MIN, MAX}) {
                    Edges.due("pivot(" + p + ", " + v + ", " + d + ")", Edges.pivot(x, p, v, d), THROWN);
                }
            }
            Edges.due("pivot(" + p + ", 0, 1)", Edges.pivot(x, p, 0, 1), 0);
        }
    }

    @Edges.Says("13: without LINES, too")
    static void p13WithoutLines() {
        Edges.due("pivot(13, 1, 12)", Edges.pivot(new ConfigSearch(), 13, 1, 12), 12);
        Edges.due("pivot(2, 1, 1)", Edges.pivot(new ConfigSearch(), 2, 1, 1), 1);
    }
}
