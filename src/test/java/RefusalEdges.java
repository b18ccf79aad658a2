/** Refused calls: which refusal comes first, and that it changes nothing. */
public final class RefusalEdges {
    private static final int BAD = Edges.BAD, STATE = Edges.STATE, FULL = Edges.FULL, NONE = Edges.NONE, MIN = Edges.MIN, MAX = Edges.MAX;

    public static void main(String[] args) throws Exception {
        Edges.run(RefusalEdges.class);
    }

    private interface Maker {
        ConfigSearch make();
    }

    private static ConfigSearch fresh() {
        return new ConfigSearch();
    }

    /** A LINE more than needed, and all that an object can have: bars, SIGNS, A PICTURE over 7, a ROW, bytes on THE TAPE. */
    private static ConfigSearch busy() {
        ConfigSearch x = Edges.barAll(Edges.with("abc ade"), 1, 2, 3);
        Edges.orientAll(x, 0, 1, 3, 1, 0, 2, 4, 1, 0, 1, 4, 1);
        x.realise(7, 20000);
        x.deduce();
        Edges.type(x, "jih");
        return x;
    }

    /** The same with a last ROW of kind 1 and A PICTURE on THE GRID. */
    private static ConfigSearch broken() {
        ConfigSearch x = Edges.with("abc ade");
        x.realise(0, 20000);
        Edges.orientAll(x, 0, 1, 3, 1, 0, 2, 4, 1, 0, 1, 4, 1, 0, 2, 3, -1);
        x.deduce();
        Edges.type(x, "jih");
        return x;
    }

    /** 20 BARRED and 20 ORIENTED ones. */
    private static ConfigSearch full() {
        ConfigSearch x = Edges.with("abc defgh hij");
        for (int n = 0; n < 20; n++) {
            x.bar(n / 7, (n / 7 + 1) % 3, 3 + n % 7);
            x.orient(n / 7, (n / 7 + 1) % 3, 3 + n % 7, 1);
        }
        x.realise(7, 20000);
        x.deduce();
        Edges.type(x, "jih");
        return x;
    }

    /** 80 bytes on THE TAPE. */
    private static ConfigSearch fullTape() {
        ConfigSearch x = Edges.with("abc ade");
        Edges.type(x, " ".repeat(77) + "jih");
        return x;
    }

    /** A picture-less object: THE SEARCH came to its end. */
    private static ConfigSearch ended() {
        ConfigSearch x = Edges.with("abcd aef");
        x.realise(2, 20000);
        Edges.type(x, "ab");
        return x;
    }

    private static void refused(Maker maker, String name, int want, Edges.Call call) {
        ConfigSearch x = maker.make();
        Edges.due(name, call.on(x), want);
        Edges.sameText(name, Edges.probe(x), Edges.probe(maker.make()));
    }

    @Edges.Says("2: a refused sign() changes nothing")
    static void p02() {
        for (int c : new int[] {-1, 256, MIN, MAX}) {
            refused(RefusalEdges::fresh, "sign(" + c + ")", BAD, x -> x.sign(c));
            refused(RefusalEdges::busy, "sign(" + c + ")", BAD, x -> x.sign(c));
            refused(RefusalEdges::fullTape, "sign(" + c + ")", BAD, x -> x.sign(c));
        }
        for (int c : new int[] {0, 32, 97, 255}) {
            refused(RefusalEdges::fullTape, "sign(" + c + ")", FULL, x -> x.sign(c));
        }
    }

    @Edges.Says("4: a refused count() changes nothing")
    static void p04() {
        refused(RefusalEdges::busy, "count(8)", BAD, x -> x.count(8));
        refused(RefusalEdges::busy, "count(-1)", BAD, x -> x.count(-1));
    }

    @Edges.Says("5: a refused line() changes nothing")
    static void p05() {
        refused(RefusalEdges::busy, "line(2, 0)", BAD, x -> x.line(2, 0, true));
        refused(RefusalEdges::busy, "line(0, -1)", BAD, x -> x.line(0, -1, false));
        refused(RefusalEdges::busy, "line(0, 3)", NONE, x -> x.line(0, 3, false));
    }

    @Edges.Says("6: a refused bar() changes nothing")
    static void p06() {
        refused(RefusalEdges::fresh, "bar(0, 1, 2)", BAD, x -> x.bar(0, 1, 2));
        refused(RefusalEdges::busy, "bar(0, 1, 5)", BAD, x -> x.bar(0, 1, 5));
        refused(RefusalEdges::busy, "bar(0, 1, 1)", BAD, x -> x.bar(0, 1, 1));
        refused(RefusalEdges::busy, "bar(0, 1, 2)", STATE, x -> x.bar(0, 1, 2));
        refused(RefusalEdges::full, "bar(0, 8, 9)", FULL, x -> x.bar(0, 8, 9));
        refused(RefusalEdges::full, "bar(7, 8, 9)", STATE, x -> x.bar(7, 8, 9));
        refused(RefusalEdges::full, "bar(0, 8, 10)", BAD, x -> x.bar(0, 8, 10));
        refused(RefusalEdges::full, "bar(1, 0, 3) again", 20, x -> x.bar(1, 0, 3));
    }

    @Edges.Says("7: a refused orient() changes nothing")
    static void p07() {
        refused(RefusalEdges::fresh, "orient(0, 1, 2, 1)", BAD, x -> x.orient(0, 1, 2, 1));
        refused(RefusalEdges::busy, "orient(0, 1, 5, 1)", BAD, x -> x.orient(0, 1, 5, 1));
        refused(RefusalEdges::busy, "orient(1, 2, 3, 0)", BAD, x -> x.orient(1, 2, 3, 0));
        refused(RefusalEdges::busy, "orient(0, 1, 2, 1)", STATE, x -> x.orient(0, 1, 2, 1));
        refused(RefusalEdges::busy, "orient(0, 1, 2, 2)", BAD, x -> x.orient(0, 1, 2, 2));
        refused(RefusalEdges::busy, "orient(0, 1, 3, -1)", STATE, x -> x.orient(0, 1, 3, -1));
        refused(RefusalEdges::busy, "orient(1, 0, 3, -1) again", 3, x -> x.orient(1, 0, 3, -1));
        refused(RefusalEdges::full, "orient(0, 8, 9, 1)", FULL, x -> x.orient(0, 8, 9, 1));
        refused(RefusalEdges::full, "orient(0, 1, 3, -1)", STATE, x -> x.orient(0, 1, 3, -1));
        refused(RefusalEdges::full, "orient(0, 1, 2, -1)", STATE, x -> x.orient(0, 1, 2, -1));
        refused(RefusalEdges::full, "orient(0, 8, 9, 2)", BAD, x -> x.orient(0, 8, 9, 2));
    }

    @Edges.Says("8: a refused realise() changes nothing")
    static void p08() {
        refused(RefusalEdges::fresh, "realise(0, 5)", STATE, x -> x.realise(0, 5));
        refused(RefusalEdges::fresh, "realise(1, 5)", BAD, x -> x.realise(1, 5));
        refused(RefusalEdges::busy, "realise(1, 5)", BAD, x -> x.realise(1, 5));
        refused(RefusalEdges::busy, "realise(0, 0)", BAD, x -> x.realise(0, 0));
        refused(RefusalEdges::busy, "realise(5, 20001)", BAD, x -> x.realise(5, 20001));
        refused(RefusalEdges::broken, "realise(-13, 5)", BAD, x -> x.realise(-13, 5));
        refused(RefusalEdges::ended, "realise(3, 0)", BAD, x -> x.realise(3, 0));
    }

    @Edges.Says("9, 10: a refused coordinate() or check() changes nothing")
    static void p09And10() {
        refused(RefusalEdges::busy, "coordinate(5, 0)", BAD, x -> x.coordinate(5, 0));
        refused(RefusalEdges::busy, "coordinate(0, 4)", BAD, x -> x.coordinate(0, 4));
        refused(RefusalEdges::ended, "coordinate(0, 0)", STATE, x -> x.coordinate(0, 0));
        refused(RefusalEdges::ended, "coordinate(0, 4)", BAD, x -> x.coordinate(0, 4));
        refused(RefusalEdges::ended, "check()", STATE, x -> x.check());
    }

    @Edges.Says("11, 12, 13: a refused meet(), meets() or pivot() changes nothing, nor one that throws")
    static void p11To13() {
        refused(RefusalEdges::busy, "meet(0, 0)", BAD, x -> Edges.meet(x, 0, 0));
        refused(RefusalEdges::busy, "meets(0, 2)", BAD, x -> x.meets(0, 2));
        refused(RefusalEdges::broken, "meet(0, 1)", STATE, x -> Edges.meet(x, 0, 1));
        refused(RefusalEdges::ended, "meets(0, 1)", STATE, x -> x.meets(0, 1));
        refused(RefusalEdges::ended, "meets(0, 0)", BAD, x -> x.meets(0, 0));
        refused(RefusalEdges::busy, "pivot(4, 1, 1)", BAD, x -> Edges.pivot(x, 4, 1, 1));
        refused(RefusalEdges::busy, "pivot(7, 1, 7)", Edges.THROWN, x -> Edges.pivot(x, 7, 1, 7));
    }

    @Edges.Says("14: a refused deduce() changes nothing")
    static void p14() {
        refused(RefusalEdges::fresh, "deduce()", STATE, x -> x.deduce());
    }

    @Edges.Says("15, 16: a refused row() or plant() changes nothing")
    static void p15And16() {
        refused(RefusalEdges::busy, "row(0, 10)", BAD, x -> x.row(0, 10));
        refused(RefusalEdges::busy, "row(1, 0)", NONE, x -> x.row(1, 0));
        refused(RefusalEdges::busy, "plant(0, 2)", BAD, x -> x.plant(0, 2));
        refused(RefusalEdges::busy, "plant(0, -2)", BAD, x -> x.plant(0, -2));
        refused(RefusalEdges::busy, "plant(1, 0)", NONE, x -> x.plant(1, 0));
        refused(RefusalEdges::busy, "plant(-1, 0)", NONE, x -> x.plant(-1, 0));
        refused(RefusalEdges::broken, "plant(0, 1)", NONE, x -> x.plant(0, 1));
        refused(RefusalEdges::broken, "plant(0, -3)", BAD, x -> x.plant(0, -3));
    }

    @Edges.Says("18, 19: a refused known() or certificate() changes nothing")
    static void p18And19() {
        refused(RefusalEdges::busy, "known(0, 1, 5)", BAD, x -> x.known(0, 1, 5));
        refused(RefusalEdges::busy, "known(1, 2, 4)", NONE, x -> x.known(1, 2, 4));
        refused(RefusalEdges::busy, "certificate(3, 0)", BAD, x -> x.certificate(3, 0));
        refused(RefusalEdges::ended, "certificate(0, 0)", STATE, x -> x.certificate(0, 0));
        refused(RefusalEdges::ended, "certificate(0, 3)", BAD, x -> x.certificate(0, 3));
    }

    @Edges.Says("20, 21, 22: a refused kinds(), canonical() or orbit() changes nothing")
    static void p20To22() {
        refused(RefusalEdges::busy, "kinds(7, 0)", BAD, x -> x.kinds(7, 0));
        refused(RefusalEdges::busy, "kinds(6, 5)", BAD, x -> x.kinds(6, 5));
        refused(RefusalEdges::busy, "canonical(2)", NONE, x -> x.canonical(2));
        refused(RefusalEdges::full, "canonical(0)", STATE, x -> x.canonical(0));
        refused(RefusalEdges::busy, "orbit(-1)", BAD, x -> x.orbit(-1));
        refused(RefusalEdges::full, "orbit(0)", STATE, x -> x.orbit(0));
    }

    @Edges.Says("a call that only asks changes nothing")
    static void asking() {
        refused(RefusalEdges::busy, "check()", 1, x -> x.check());
        refused(RefusalEdges::busy, "proof()", 1, x -> x.proof());
        refused(RefusalEdges::busy, "kinds(6, 2)", 2, x -> x.kinds(6, 2));
        refused(RefusalEdges::busy, "canonical(1)", 25, x -> x.canonical(1));
        refused(RefusalEdges::busy, "orbit(2)", 5, x -> x.orbit(2));
        refused(RefusalEdges::busy, "known(0, 1, 3)", 1, x -> x.known(0, 1, 3));
        refused(RefusalEdges::busy, "certificate(2, 1)", 1, x -> x.certificate(2, 1));
        refused(RefusalEdges::busy, "meets(0, 1)", 0, x -> x.meets(0, 1));
        refused(RefusalEdges::busy, "pivot(7, 1, 2)", 4, x -> Edges.pivot(x, 7, 1, 2));
        refused(RefusalEdges::broken, "check()", 0, x -> x.check());
        refused(RefusalEdges::broken, "proof()", 1, x -> x.proof());
    }

    @Edges.Says("two objects know nothing of one another")
    static void apart() {
        ConfigSearch x = busy();
        ConfigSearch y = broken();
        ConfigSearch z = fresh();
        Edges.sameText("the first", Edges.probe(x), Edges.probe(busy()));
        Edges.sameText("the second", Edges.probe(y), Edges.probe(broken()));
        Edges.sameText("the third", Edges.probe(z), Edges.probe(fresh()));
    }
}
