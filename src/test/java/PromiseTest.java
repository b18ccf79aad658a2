/** For each promise answers that were worked out by hand from the document. */
public final class PromiseTest {
    private static final int BAD = -9, STATE = -2, FULL = -3, NONE = -4;
    private static final int THROWN = -77;
    private static final String FANO = "abc ade afg bdf beg cdg cef";
    /** Thirteen words of ten letters, no two with two letters in common. */
    private static final String THIRTEEN = packed(7, 13);
    /** Twelve words, the last of which could take one letter more, that letter behind a blank. */
    private static final String TWELVE_AND_D = packed(15, 12).substring(5) + " abc d";
    private static int wrong = 0;

    public static void main(String[] args) {
        promise1();
        promise2();
        promise3();
        promise3Stays();
        promise3Forgets();
        promise4();
        promise5();
        promise6();
        promise7();
        promise8();
        promise8Wants();
        promise9();
        promise10();
        promise11and12();
        promise13();
        promise14();
        promise14Terms();
        promise14Edges();
        promise15();
        promise16and17();
        promise17Now();
        promise18();
        promise19();
        promise20();
        promise21();
        promise22();
        System.out.println(wrong == 0 ? "all promises hold" : wrong + " answers are not as due");
        if (wrong != 0) {
            System.exit(1);
        }
    }

    private static void due(String what, int got, int want) {
        if (got != want) {
            wrong++;
            System.out.println(what + ": answered " + got + ", due is " + want);
        }
    }

    private static int tell(ConfigSearch x, String text) {
        for (int i = 0; i < text.length(); i++) {
            x.sign(text.charAt(i));
        }
        return x.read();
    }

    private static ConfigSearch with(String text) {
        ConfigSearch x = new ConfigSearch();
        if (tell(x, text) < 0) {
            wrong++;
            System.out.println("not read: " + text);
        }
        return x;
    }

    private static void orientAll(ConfigSearch x, int... told) {
        for (int i = 0; i < told.length; i += 4) {
            due("orient " + i / 4, x.orient(told[i], told[i + 1], told[i + 2], told[i + 3]), i / 4 + 1);
        }
    }

    /** Words that share at most one letter, picked one by one with a step back where none fits. */
    private static String packed(int first, int words) {
        int[] masks = new int[words];
        int depth = 1;
        masks[0] = first;
        masks[1] = 6;
        while (depth < words) {
            masks[depth]++;
            if (masks[depth] >= 1 << 10) {
                depth--;
                continue;
            }
            boolean fits = Integer.bitCount(masks[depth]) == 3;
            for (int i = 0; i < depth; i++) {
                fits &= Integer.bitCount(masks[i] & masks[depth]) < 2;
            }
            if (fits) {
                depth++;
                if (depth < words) {
                    masks[depth] = masks[depth - 1];
                }
            }
        }
        StringBuilder text = new StringBuilder();
        for (int mask : masks) {
            for (int i = 0; i < 10; i++) {
                if ((mask >> i & 1) == 1) {
                    text.append((char) ('a' + i));
                }
            }
            text.append(' ');
        }
        return text.substring(0, text.length() - 1);
    }

    private static void promise1() {
        ConfigSearch x = new ConfigSearch();
        for (int what = 0; what < 7; what++) {
            due("1 count " + what, x.count(what), 0);
        }
        due("1 count 7", x.count(7), NONE);
        due("1 line", x.line(0, 0, false), BAD);
        due("1 bar", x.bar(0, 1, 2), BAD);
        due("1 known", x.known(0, 1, 2), BAD);
        due("1 coordinate", x.coordinate(0, 0), BAD);
        due("1 realise", x.realise(0, 1), STATE);
        due("1 deduce", x.deduce(), STATE);
        due("1 check", x.check(), STATE);
        due("1 proof", x.proof(), 1);
        due("1 row", x.row(0, 0), NONE);
        due("1 certificate", x.certificate(0, 0), STATE);
        due("1 canonical", x.canonical(0), STATE);
        due("1 orbit", x.orbit(0), STATE);
        due("1 read", x.read(), -10);
    }

    private static void promise2() {
        ConfigSearch x = new ConfigSearch();
        due("2 below", x.sign(-1), BAD);
        due("2 above", x.sign(256), BAD);
        due("2 first", x.sign(0), 1);
        due("2 second", x.sign(255), 2);
        for (int i = 3; i <= 80; i++) {
            due("2 byte " + i, x.sign(32), i);
        }
        due("2 full", x.sign(97), FULL);
        due("2 bad ahead of full", x.sign(300), BAD);
        due("2 on the tape", x.count(6), 80);
        due("2 the first byte is the fault", x.read(), -10);
        due("2 room again", x.sign(97), 1);
    }

    private static void fault(String text, int place) {
        due("3 fault of '" + text + "'", tell(new ConfigSearch(), text), -10 - place);
    }

    private static void promise3() {
        due("3 one word", tell(new ConfigSearch(), "abc"), 3);
        due("3 five letters", tell(new ConfigSearch(), "jihgf"), 5);
        due("3 blanks", tell(new ConfigSearch(), "   abc   ade  "), 6);
        due("3 one in common with two", tell(new ConfigSearch(), "abc def adg"), 9);
        due("3 twelve words", tell(new ConfigSearch(), THIRTEEN.substring(0, 47)), 36);
        due("3 80 bytes", tell(new ConfigSearch(), " ".repeat(77) + "abc"), 3);
        fault("", 0);
        fault("   ", 3);
        fault("a", 1);
        fault("ab", 2);
        fault("abc d", 5);
        fault("abc de", 6);
        fault("a bc", 1);
        fault("ab c", 2);
        fault("aba", 2);
        fault("aab", 1);
        fault("abcda", 4);
        fault("abcdef", 5);
        fault("abc abd", 5);
        fault("abc dba", 6);
        fault("abc dea deb", 9);
        fault("abk", 2);
        fault("ab`", 2);
        fault("Abc", 0);
        fault("abc\tdef", 3);
        fault("abc\0", 3);
        fault("abc\u00e1", 3);
        fault("  ab cd zz", 4);
        fault(THIRTEEN, 48);
        fault(THIRTEEN.substring(0, 48) + "  " + THIRTEEN.substring(48), 50);
        fault(TWELVE_AND_D, 48);
        due("3 blanks behind a twelfth word", tell(new ConfigSearch(), THIRTEEN.substring(0, 48) + "  "), 36);
    }

    private static void promise3Stays() {
        ConfigSearch x = with("bac bde");
        orientAll(x, 0, 1, 3, 1, 0, 2, 4, 1, 0, 1, 4, 1);
        x.bar(1, 2, 3);
        due("3 realise", x.realise(7, 20000), 1);
        due("3 deduce", x.deduce(), 1);
        int steps = x.count(5);
        due("3 fault", tell(x, "abc ab"), -15);
        int[] counts = {5, 2, 1, 3, 1, steps, 0, 1};
        for (int what = 0; what < 8; what++) {
            due("3 stays " + what, x.count(what), counts[what]);
        }
        due("3 picture stays", x.check(), 1);
        due("3 letter stays", x.line(1, 0, true), 'b');
        due("3 read anew", tell(x, "cab"), 3);
        int[] anew = {3, 1, 0, 0, 0, 0, 0, NONE};
        for (int what = 0; what < 8; what++) {
            due("3 anew " + what, x.count(what), anew[what]);
        }
        due("3 no picture", x.check(), STATE);
        due("3 no row", x.row(0, 0), NONE);
        due("3 flat anew", x.known(0, 1, 2), 0);
        due("3 new form", x.canonical(0), 7);
    }

    private static void promise3Forgets() {
        ConfigSearch x = with("abc ade");
        x.bar(1, 2, 3);
        x.orient(0, 1, 4, 1);
        due("3 all renamings", x.orbit(0), 8);
        due("3 read anew", tell(x, "ade bce"), 6);
        due("3 flat no more", x.known(0, 3, 4), NONE);
        due("3 oriented no more", x.known(0, 1, 4), NONE);
        due("3 to be barred again", x.bar(1, 2, 3), 1);
        due("3 to be oriented again", x.orient(0, 1, 4, -1), 1);
        due("3 all renamings anew", x.orbit(0), 8);
        due("3 read once more", tell(x, "adebc"), 5);
        due("3 all renamings once more", x.orbit(0), 120);
    }

    private static void promise4() {
        ConfigSearch x = with("abc cde efa");
        due("4 points", x.count(0), 6);
        due("4 lines", x.count(1), 3);
        x.bar(0, 2, 4);
        x.bar(4, 2, 0);
        x.bar(1, 3, 5);
        due("4 barred", x.count(2), 2);
        x.orient(0, 2, 4, -1);
        due("4 oriented", x.count(3), 1);
        due("4 rows", x.count(4), 0);
        due("4 no steps", x.count(5), 0);
        x.realise(5, 3);
        due("4 steps", x.count(5), 3);
        x.realise(5, 0);
        due("4 refused search", x.count(5), 3);
        x.sign(97);
        due("4 tape", x.count(6), 1);
        due("4 nothing deduced", x.count(7), NONE);
        x.deduce();
        due("4 deduced", x.count(7), 1);
        due("4 below", x.count(-1), BAD);
        due("4 above", x.count(8), BAD);
    }

    private static void promise5() {
        ConfigSearch x = with(" dcba  ebj ");
        int[] points = {0, 1, 2, 3};
        for (int i = 0; i < 4; i++) {
            due("5 point", x.line(0, i, false), points[i]);
            due("5 letter", x.line(0, i, true), "dcba".charAt(i));
        }
        due("5 new point", x.line(1, 0, false), 4);
        due("5 old point", x.line(1, 1, false), 2);
        due("5 last point", x.line(1, 2, false), 5);
        due("5 last letter", x.line(1, 2, true), 'j');
        due("5 behind", x.line(0, 4, false), NONE);
        due("5 behind a short one", x.line(1, 3, true), NONE);
        due("5 far behind", x.line(1, Integer.MAX_VALUE, true), NONE);
        due("5 below", x.line(0, -1, false), BAD);
        due("5 no line", x.line(2, 0, false), BAD);
        due("5 no line below", x.line(-1, 0, false), BAD);
        due("5 neither", x.line(2, 9, false), BAD);
    }

    private static void promise6() {
        ConfigSearch x = with("abc defgh hij");
        due("6 flat", x.bar(2, 0, 1), STATE);
        due("6 flat of five", x.bar(7, 3, 5), STATE);
        due("6 alike", x.bar(0, 0, 3), BAD);
        due("6 alike behind", x.bar(3, 0, 3), BAD);
        due("6 below", x.bar(-1, 0, 3), BAD);
        due("6 above", x.bar(0, 3, 10), BAD);
        int n = 0;
        for (int a = 0; a < 3; a++) {
            for (int b = 3; b < 10 && n < 20; b++) {
                n++;
                due("6 barred", x.bar(b, a, (a + 1) % 3), n);
            }
        }
        due("6 full", x.bar(0, 8, 9), FULL);
        due("6 was", x.bar(1, 0, 3), 20);
        due("6 flat ahead of full", x.bar(0, 1, 2), STATE);
        due("6 bad ahead of full", x.bar(0, 8, 11), BAD);
        due("6 count", x.count(2), 20);
    }

    private static void promise7() {
        ConfigSearch x = with("abc defgh hij");
        due("7 flat", x.orient(2, 0, 1, 1), STATE);
        due("7 no sign", x.orient(0, 1, 3, 0), BAD);
        due("7 sign 2", x.orient(0, 1, 3, 2), BAD);
        due("7 bad ahead of flat", x.orient(0, 1, 2, 0), BAD);
        due("7 alike", x.orient(3, 1, 3, 1), BAD);
        due("7 above", x.orient(3, 1, 10, 1), BAD);
        due("7 told", x.orient(3, 0, 1, 1), 1);
        due("7 round", x.orient(0, 1, 3, 1), 1);
        due("7 exchanged", x.orient(0, 3, 1, -1), 1);
        due("7 other", x.orient(0, 1, 3, -1), STATE);
        due("7 other, exchanged", x.orient(1, 0, 3, 1), STATE);
        due("7 count", x.count(3), 1);
        due("7 barred too", x.bar(0, 1, 3), 1);
        int n = 1;
        for (int a = 0; a < 3; a++) {
            for (int b = a == 0 ? 4 : 3; b < 10 && n < 20; b++) {
                n++;
                due("7 next", x.orient(b, a, (a + 1) % 3, -1), n);
            }
        }
        due("7 full", x.orient(0, 8, 9, 1), FULL);
        due("7 had it", x.orient(0, 1, 3, 1), 20);
        due("7 other ahead of full", x.orient(0, 1, 3, -1), STATE);
        due("7 flat ahead of full", x.orient(0, 1, 2, -1), STATE);
    }

    private static void promise8() {
        ConfigSearch x = with("abc");
        int[] fields = {-2, 1, 4, 6, 8, 9, 10, 12, 14, 17};
        for (int field : fields) {
            due("8 field " + field, x.realise(field, 5), BAD);
        }
        due("8 no steps", x.realise(0, 0), BAD);
        due("8 too many", x.realise(0, 20001), BAD);
        due("8 bad ahead of state", new ConfigSearch().realise(4, 5), BAD);
        due("8 state", new ConfigSearch().realise(13, 20000), STATE);
        due("8 found at the last step", x.realise(0, 6), 1);
        due("8 its steps", x.count(5), 6);
        due("8 one too few", x.realise(0, 5), 2);
        due("8 its steps", x.count(5), 5);
        due("8 no picture then", x.check(), STATE);
        ConfigSearch y = with("abcd");
        due("8 four on a line of three", y.realise(2, 20000), 0);
        due("8 7 + 49 + 294 + 294", y.count(5), 644);
        due("8 to the very end", y.realise(2, 644), 0);
        due("8 one ahead of the end", y.realise(2, 643), 2);
        due("8 four of three's line", y.realise(3, 20000), 1);
        due("8 end has no picture", y.realise(2, 644), 0);
        due("8 the old one is gone", y.coordinate(0, 0), STATE);
    }

    private static void promise8Wants() {
        ConfigSearch fano = with(FANO);
        due("8 on one line", fano.realise(7, 20000), 1);
        due("8 last place", fano.coordinate(6, 3), 6);
        fano.bar(0, 1, 3);
        due("8 fano over two", fano.realise(2, 20000), 1);
        due("8 fano over three", fano.realise(3, 20000), 2);
        due("8 all of its steps", fano.count(5), 20000);
        ConfigSearch x = with("abc ade");
        due("8 line on the grid", x.realise(0, 100), 1);
        due("8 five in a row", x.coordinate(4, 3), 4);
        x.orient(0, 1, 3, -1);
        due("8 below", x.realise(0, 20000), 1);
        due("8 below: row", x.coordinate(3, 1), 1);
        ConfigSearch y = with("abc ade");
        y.orient(1, 0, 3, -1);
        due("8 above", y.realise(0, 20000), 1);
        int cross = (y.coordinate(1, 1) - y.coordinate(0, 1)) * (y.coordinate(3, 2) - y.coordinate(0, 2))
                - (y.coordinate(1, 2) - y.coordinate(0, 2)) * (y.coordinate(3, 1) - y.coordinate(0, 1));
        due("8 above: value", cross > 0 ? 1 : 0, 1);
        due("8 over three the sign is free", y.realise(3, 20000), 1);
        due("8 first place off the line", y.coordinate(3, 3), 4);
    }

    private static void promise9() {
        ConfigSearch x = with("abc def");
        due("9 none", x.coordinate(0, 0), STATE);
        due("9 bad ahead", x.coordinate(6, 0), BAD);
        due("9 bad number ahead", x.coordinate(0, 4), BAD);
        x.bar(0, 1, 3);
        due("9 found", x.realise(3, 20000), 1);
        int[][] places = {{0, 0, 1, 0}, {0, 1, 0, 1}, {0, 1, 1, 2}, {1, 0, 0, 4}, {0, 1, 2, 3}, {1, 1, 2, 9}};
        for (int point = 0; point < 6; point++) {
            for (int i = 0; i < 4; i++) {
                due("9 point " + point + " number " + i, x.coordinate(point, i), places[point][i]);
            }
        }
        due("9 above", x.coordinate(6, 0), BAD);
        due("9 below", x.coordinate(-1, 0), BAD);
        due("9 number above", x.coordinate(0, 4), BAD);
        due("9 number below", x.coordinate(0, -1), BAD);
        due("9 grid", x.realise(0, 20000), 1);
        due("9 grid first", x.coordinate(3, 0), 1);
        due("9 grid row", x.coordinate(3, 1), x.coordinate(3, 3) / 5);
        due("9 grid column", x.coordinate(3, 2), x.coordinate(3, 3) % 5);
    }

    private static void promise10() {
        ConfigSearch x = with("abc ade");
        due("10 none", x.check(), STATE);
        due("10 found", x.realise(5, 100), 1);
        due("10 as found", x.check(), 1);
        x.bar(0, 1, 3);
        due("10 barred since", x.check(), 0);
        due("10 stays", x.coordinate(3, 3), 3);
        due("10 anew", x.realise(0, 20000), 1);
        due("10 as found anew", x.check(), 1);
        due("10 its sign is -1", x.orient(0, 1, 3, 1), 1);
        due("10 oriented since", x.check(), 0);
        ConfigSearch y = with("abc ade");
        y.bar(0, 1, 3);
        y.realise(0, 20000);
        y.orient(0, 1, 3, -1);
        due("10 oriented as it is", y.check(), 1);
        y.realise(7, 20000);
        due("10 over a prime any sign", y.check(), 1);
        y.bar(1, 2, 3);
        y.bar(0, 2, 3);
        due("10 barred since, as it is", y.check(), 1);
        ConfigSearch z = with("abc ade");
        z.realise(5, 100);
        z.orient(2, 3, 4, 1);
        due("10 oriented, 0 over a prime", z.check(), 0);
    }

    private static int meet(ConfigSearch x, int line, int other) {
        try {
            return x.meet(line, other);
        } catch (ArithmeticException e) {
            return THROWN;
        }
    }

    private static void both(String what, ConfigSearch x, int line, int other, int want) {
        due("11 " + what, meet(x, line, other), want);
        due("12 " + what, x.meets(line, other), want);
    }

    private static void promise11and12() {
        ConfigSearch x = with("abc def");
        both("no picture", x, 0, 1, STATE);
        both("same, no picture", x, 1, 1, BAD);
        x.bar(0, 1, 3);
        x.realise(3, 20000);
        both("place of e", x, 0, 1, 3);
        both("turned", x, 1, 0, 3);
        both("same", x, 0, 0, BAD);
        both("no line", x, 0, 2, BAD);
        both("below", x, -1, 0, BAD);
        x.realise(0, 20000);
        both("grid", x, 0, 1, STATE);
        both("grid, no line", x, 0, 5, BAD);
        ConfigSearch y = with("abc ade");
        y.realise(5, 100);
        due("11 on one another", meet(y, 0, 1), THROWN);
        due("12 on one another", y.meets(0, 1), NONE);
        y.bar(0, 1, 3);
        for (int p : new int[] {2, 3, 5, 7, 11, 13}) {
            due("11 found over " + p, y.realise(p, 20000), 1);
            both("in a over " + p, y, 0, 1, y.coordinate(0, 3));
        }
        ConfigSearch z = with("abc ade bdf");
        z.bar(0, 1, 3);
        z.realise(5, 20000);
        both("in b", z, 0, 2, z.coordinate(1, 3));
        both("in d", z, 2, 1, z.coordinate(3, 3));
        ConfigSearch four = with("abc ade bdf cef");
        four.bar(0, 1, 3);
        four.realise(5, 20000);
        both("in f, (1, 4, 0)", four, 2, 3, 26);
        due("9 place of f", four.coordinate(5, 3), 26);
    }

    private static int pivot(ConfigSearch x, int p, int v, int d) {
        try {
            return x.pivot(p, v, d);
        } catch (ArithmeticException e) {
            return THROWN;
        }
    }

    private static void promise13() {
        ConfigSearch x = new ConfigSearch();
        int[] numbers = {Integer.MIN_VALUE, Integer.MAX_VALUE, -26, -13, -7, -3, -1, 0, 1, 2, 3, 6, 10, 12, 13, 22, 143};
        for (int p : new int[] {2, 3, 5, 7, 11, 13}) {
            for (int v : numbers) {
                ConfigSearch y = new ConfigSearch();
                for (int d : numbers) {
                    int r = pivot(y, p, v, d);
                    boolean fine = d % p == 0 ? r == THROWN : r >= 0 && r < p && ((long) r * d - v) % p == 0;
                    due("13 " + p + " " + v + " " + d, fine ? 1 : 0, 1);
                }
            }
        }
        for (int p : new int[] {0, 1, 4, 6, 9, 17, -2, -7, Integer.MIN_VALUE}) {
            due("13 no prime " + p, pivot(x, p, 1, 0), BAD);
        }
        due("13 half over seven", pivot(x, 7, 1, 2), 4);
    }

    /** abc ade with three SIGNS, by which the fourth of 0; 1, 2, 3, 4 is told. */
    private static ConfigSearch pencil(int last) {
        ConfigSearch x = with("abc ade");
        orientAll(x, 0, 1, 3, 1, 0, 2, 4, 1, 0, 1, 4, 1);
        if (last != 0) {
            x.orient(0, 2, 3, last);
        }
        return x;
    }

    private static void rowIs(String what, ConfigSearch x, int i, int... want) {
        for (int j = 0; j < 10; j++) {
            due(what + " entry " + j, x.row(i, j), want[j]);
        }
    }

    private static void promise14() {
        due("14 state", new ConfigSearch().deduce(), STATE);
        due("14 three points", with("abc").deduce(), 1);
        ConfigSearch x = pencil(0);
        due("14 follows", x.deduce(), 1);
        due("14 rows", x.count(4), 1);
        due("14 told", x.count(7), 1);
        due("14 anew", x.deduce(), 1);
        due("14 rows anew", x.count(4), 1);
        ConfigSearch y = pencil(-1);
        due("14 broken", y.deduce(), 0);
        due("14 broken told", y.count(7), 0);
        rowIs("14 broken", y, 0, 1, 0, 1, 2, 3, 4, NONE, NONE, NONE, 0);
        ConfigSearch z = pencil(1);
        due("14 nothing to tell", z.deduce(), 1);
        due("14 no rows", z.count(4), 0);
    }

    /** Of 0; 1, 3, 4, 5 the first TERM has the SIGN first, the last one last; 035 is missing. */
    private static ConfigSearch twoTerms(int first, int last) {
        ConfigSearch x = with("abc def");
        orientAll(x, 0, 1, 3, first, 0, 4, 5, 1, 0, 1, 5, last, 0, 3, 4, 1, 0, 1, 4, 1);
        due("14 two terms", x.deduce(), 1);
        return x;
    }

    private static void promise14Terms() {
        rowIs("14 both above", twoTerms(1, 1), 0, 0, 0, 1, 3, 4, 5, 0, 3, 5, 1);
        rowIs("14 both below", twoTerms(-1, -1), 0, 0, 0, 1, 3, 4, 5, 0, 3, 5, -1);
        due("14 above and below", twoTerms(1, -1).count(4), 0);
        due("14 below and above", twoTerms(-1, 1).count(4), 0);
        // abc flat: the missing 045 has a partner that is 0, so that nothing is told of it
        ConfigSearch x = with("abc def");
        orientAll(x, 0, 1, 3, 1, 0, 2, 4, 1, 0, 1, 4, 1, 0, 2, 3, 1);
        due("14 partner 0", x.deduce(), 1);
        due("14 nothing of 034", x.known(0, 3, 4), NONE);
    }

    private static void promise14Edges() {
        ConfigSearch ends = with("abcde afghi bfj");
        orientAll(ends, 1, 2, 6, 1, 0, 1, 7, -1, 0, 1, 6, 1, 2, 3, 6, 1, 1, 4, 9, 1, 0, 1, 8, 1, 4, 5, 7, -1,
                1, 6, 9, 1, 1, 6, 8, -1, 2, 3, 7, 1, 5, 7, 9, -1, 3, 4, 5, 1, 1, 6, 7, -1, 2, 6, 8, -1,
                0, 1, 9, 1, 0, 1, 5, 1, 3, 7, 9, 1, 0, 7, 9, -1, 1, 3, 9, 1);
        due("14 the 60th is broken", ends.deduce(), 0);
        due("14 60 rows", ends.count(4), 60);
        due("14 the last's kind", ends.row(59, 0), 1);
        due("14 its proof", ends.proof(), 1);
        ConfigSearch full = with("abcde afghi bfj");
        orientAll(full, 4, 7, 9, 1, 4, 5, 9, 1, 0, 2, 9, 1, 1, 2, 8, 1, 1, 7, 8, -1, 1, 7, 9, 1, 0, 8, 9, -1,
                1, 3, 6, 1, 1, 4, 7, 1, 3, 8, 9, 1, 0, 3, 7, 1, 4, 6, 7, -1, 0, 4, 5, 1, 6, 7, 9, -1,
                2, 4, 5, 1, 1, 4, 5, 1, 0, 2, 8, 1, 1, 3, 8, 1, 2, 4, 7, 1, 4, 8, 9, 1);
        due("14 60 rows end it, whether more follows or not", full.deduce(), 2);
        due("14 told 2", full.count(7), 2);
        due("14 60 rows too", full.count(4), 60);
        due("14 no 61st", full.row(60, 0), NONE);
        due("14 proof of 60", full.proof(), 1);
        due("14 planted last", full.plant(59, -full.row(59, 9)) != NONE ? full.proof() : NONE, 0);
    }

    private static void promise15() {
        ConfigSearch x = pencil(0);
        due("15 none yet", x.row(0, 0), NONE);
        x.deduce();
        rowIs("15", x, 0, 0, 0, 1, 2, 3, 4, 0, 2, 3, 1);
        due("15 what above", x.row(0, 10), BAD);
        due("15 what below", x.row(0, -1), BAD);
        due("15 no such row", x.row(1, 9), NONE);
        due("15 row below", x.row(-1, 0), NONE);
        due("15 bad ahead of none", x.row(1, 10), BAD);
        ConfigSearch y = with("cab cde");
        orientAll(y, 1, 0, 3, 1, 0, 2, 4, 1, 0, 1, 4, 1);
        y.deduce();
        due("15 told turned", y.row(0, 9), -1);
        due("15 known turned", y.known(0, 3, 2), 1);
        // a is 2 here, so that 213 is told below 0, and its rising 123 above
        ConfigSearch z = with("abc dec");
        orientAll(z, 0, 2, 3, 1, 1, 2, 4, 1, 0, 2, 4, 1);
        due("15 a in the middle", z.deduce(), 1);
        rowIs("15 a in the middle", z, 0, 0, 2, 0, 1, 3, 4, 1, 2, 3, 1);
        due("15 known as in the relation", z.known(2, 1, 3), -1);
        certificateIs("19 a in the middle", z, 0, 0, 0, -1, -1, -1, -1, -1, 1);
    }

    private static void promise16and17() {
        ConfigSearch x = pencil(0);
        due("16 none yet", x.plant(0, 1), NONE);
        due("17 no rows", x.proof(), 1);
        x.deduce();
        due("17 follows", x.proof(), 1);
        due("16 planted", x.plant(0, -1), 1);
        due("16 the row's", x.row(0, 9), -1);
        due("17 not its sign", x.proof(), 0);
        due("16 zero", x.plant(0, 0), -1);
        due("17 zero is not its sign", x.proof(), 0);
        due("16 back", x.plant(0, 1), 0);
        due("17 again", x.proof(), 1);
        due("16 above", x.plant(0, 2), BAD);
        due("16 below", x.plant(0, -2), BAD);
        due("16 bad ahead of none", x.plant(1, 2), BAD);
        due("16 no such row", x.plant(1, 0), NONE);
        due("16 row below", x.plant(-1, 0), NONE);
        ConfigSearch y = pencil(-1);
        y.deduce();
        due("17 broken", y.proof(), 1);
        due("16 of kind 1", y.plant(0, 0), NONE);
        due("16 bad ahead of kind 1", y.plant(0, 5), BAD);
    }

    private static void promise17Now() {
        ConfigSearch x = pencil(0);
        x.deduce();
        x.bar(0, 2, 3);
        due("17 barred, but not 0", x.proof(), 1);
        x.orient(1, 2, 3, 1);
        due("17 told besides", x.proof(), 1);
        due("7 rows stay", x.count(4), 1);
        x.orient(0, 2, 3, 1);
        due("17 known without the row, so not told by it", x.proof(), 0);
    }

    private static void promise18() {
        ConfigSearch x = pencil(0);
        due("18 flat", x.known(2, 0, 1), 0);
        due("18 oriented", x.known(0, 1, 3), 1);
        due("18 exchanged", x.known(1, 0, 3), -1);
        due("18 round", x.known(3, 0, 1), 1);
        due("18 not known", x.known(0, 2, 3), NONE);
        due("18 not known either way", x.known(2, 0, 3), NONE);
        x.deduce();
        due("18 by a row", x.known(0, 2, 3), 1);
        due("18 by a row, exchanged", x.known(0, 3, 2), -1);
        x.plant(0, -1);
        due("18 as planted", x.known(0, 2, 3), -1);
        due("18 oriented besides", x.orient(0, 2, 3, 1), 4);
        due("18 rows ahead of oriented", x.known(0, 2, 3), -1);
        due("18 alike", x.known(0, 0, 1), BAD);
        due("18 above", x.known(0, 1, 5), BAD);
        due("18 below", x.known(0, -1, 2), BAD);
        x.deduce();
        due("18 rows gone", x.known(0, 2, 3), 1);
    }

    private static void certificateIs(String what, ConfigSearch x, int... want) {
        for (int j = 0; j < 9; j++) {
            due(what + " " + j, x.certificate(j / 3, j % 3), want[j]);
        }
    }

    private static void promise19() {
        ConfigSearch x = pencil(-1);
        due("19 no rows", x.certificate(0, 0), STATE);
        due("19 bad ahead", x.certificate(3, 0), BAD);
        x.deduce();
        certificateIs("19 broken", x, 0, 0, 0, 1, 1, -1, 1, -1, -1);
        due("19 term below", x.certificate(-1, 0), BAD);
        due("19 side above", x.certificate(0, 3), BAD);
        due("19 side below", x.certificate(0, -1), BAD);
        ConfigSearch y = pencil(0);
        y.deduce();
        certificateIs("19 told", y, 0, 0, 0, 1, 1, -1, 1, 1, 1);
        y.plant(0, -1);
        certificateIs("19 planted", y, 0, 0, 0, 1, 1, -1, 1, -1, -1);
    }

    private static void promise20() {
        int[][] kinds = {{1, 1, 0, 0, 0}, {1, 1, 0, 0, 0}, {1, 1, 1, 0, 0}, {1, 1, 2, 1, 1}};
        ConfigSearch x = with(FANO);
        for (int twice = 0; twice < 2; twice++) {
            for (int n = 3; n <= 6; n++) {
                for (int m = 0; m <= 4; m++) {
                    due("20 " + n + " " + m, x.kinds(n, m), kinds[n - 3][m]);
                }
            }
        }
        due("20 n below", x.kinds(2, 1), BAD);
        due("20 n above", x.kinds(7, 1), BAD);
        due("20 m below", x.kinds(4, -1), BAD);
        due("20 m above", x.kinds(4, 5), BAD);
        due("20 without lines", new ConfigSearch().kinds(6, 2), 2);
        due("20 beside a form", x.canonical(6), 97);
        due("20 beside renamings", x.orbit(0), 168);
    }

    private static void formIs(String text, int... form) {
        ConfigSearch x = with(text);
        for (int i = 0; i < form.length; i++) {
            due("21 " + text + " " + i, x.canonical(i), form[i]);
        }
        due("21 behind " + text, x.canonical(form.length), NONE);
        due("21 below " + text, x.canonical(-1), NONE);
    }

    private static void promise21() {
        formIs("abc", 7);
        formIs("edcba", 31);
        formIs("abcd aef", 7, 57);
        formIs("abcd efg", 7, 120);
        formIs("gfe dce", 7, 25);
        formIs("abc def", 7, 56);
        formIs(FANO, 7, 25, 42, 52, 76, 82, 97);
        formIs("gcb fda gfe", 7, 25, 98);
        due("21 no lines", new ConfigSearch().canonical(0), STATE);
        ConfigSearch eight = with("abcd efgh");
        due("21 eight points", eight.canonical(0), STATE);
        due("21 state ahead", eight.canonical(-1), STATE);
        tell(eight, "abc");
        due("21 read anew", eight.canonical(0), 7);
        tell(eight, "abcd");
        due("21 read anew again", eight.canonical(0), 15);
    }

    private static void ordersAre(String text, int all, int... ofEach) {
        ConfigSearch x = with(text);
        due("22 all of " + text, x.orbit(0), all);
        for (int n = 1; n <= 14; n++) {
            due("22 " + text + " of order " + n, x.orbit(n), n <= ofEach.length ? ofEach[n - 1] : 0);
        }
    }

    private static void promise22() {
        ordersAre("abc", 6, 1, 3, 2);
        ordersAre(FANO, 168, 1, 21, 56, 42, 0, 0, 48);
        ordersAre("abcd aef", 12, 1, 7, 2, 0, 0, 2);
        ordersAre("abcd efg", 144, 1, 39, 26, 24, 0, 42, 0, 0, 0, 0, 0, 12);
        ordersAre("abcde", 120, 1, 25, 20, 30, 24, 20);
        due("22 below", with("abc").orbit(-1), BAD);
        due("22 far above", with("abc").orbit(Integer.MAX_VALUE), 0);
        due("22 no lines", new ConfigSearch().orbit(0), STATE);
        due("22 bad ahead", new ConfigSearch().orbit(-1), BAD);
        due("22 eight points", with("abcd efgh").orbit(1), STATE);
    }
}
