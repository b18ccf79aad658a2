/** Edges of THE TAPE, THE TEXT and what is told of it: the terms' first part, promises 1 to 5. */
public final class TextEdges {
    private static final int BAD = Edges.BAD, FULL = Edges.FULL, NONE = Edges.NONE, MIN = Edges.MIN, MAX = Edges.MAX;

    public static void main(String[] args) throws Exception {
        Edges.run(TextEdges.class);
    }

    private static void fine(String text, int letters) {
        Edges.due("read() of '" + text + "'", Edges.tell(new ConfigSearch(), text), letters);
    }

    private static void fault(String text, int place) {
        Edges.due("read() of '" + text + "'", Edges.tell(new ConfigSearch(), text), -10 - place);
    }

    @Edges.Says("An object is used for at most 512 calls")
    static void terms512Calls() {
        ConfigSearch x = Edges.with("abc ade");
        for (int call = 9; call < 512; call++) {
            Edges.due("call " + call, x.count(0), 5);
        }
        Edges.due("call 512", x.bar(0, 1, 3), 1);
    }

    // Promise 1

    @Edges.Says("1: No POINTS, LINES")
    static void p01NoPointsNoLines() {
        ConfigSearch x = new ConfigSearch();
        Edges.due("count(0)", x.count(0), 0);
        Edges.due("count(1)", x.count(1), 0);
        Edges.due("line(0, 0)", x.line(0, 0, false), BAD);
        Edges.due("bar(0, 1, 2)", x.bar(0, 1, 2), BAD);
        Edges.due("orient(0, 1, 2, 1)", x.orient(0, 1, 2, 1), BAD);
        Edges.due("known(0, 1, 2)", x.known(0, 1, 2), BAD);
        Edges.due("coordinate(0, 0)", x.coordinate(0, 0), BAD);
        Edges.bothMeet(x, 0, 1, BAD);
        for (int what = 2; what < 6; what++) {
            Edges.due("count(" + what + ")", x.count(what), 0);
        }
        Edges.due("proof()", x.proof(), 1);
    }

    @Edges.Says("1: THE TAPE is empty")
    static void p01TapeIsEmpty() {
        ConfigSearch x = new ConfigSearch();
        Edges.due("count(6)", x.count(6), 0);
        Edges.due("read()", x.read(), -10);
        Edges.due("sign(97)", x.sign(97), 1);
    }

    // Promise 2

    @Edges.Says("2: A byte 0 to 255 comes behind THE TAPE; BAD")
    static void p02ByteRange() {
        ConfigSearch x = new ConfigSearch();
        for (int c : new int[] {-1, 256, MIN, MAX, 97 + 256, 97 - 256}) {
            Edges.due("sign(" + c + ")", x.sign(c), BAD);
        }
        Edges.due("count(6)", x.count(6), 0);
        Edges.due("sign(0)", x.sign(0), 1);
        Edges.due("sign(255)", x.sign(255), 2);
    }

    @Edges.Says("2: each of 0 to 255 is a byte")
    static void p02EachByte() {
        for (int c = 0; c < 256; c++) {
            Edges.due("sign(" + c + ")", new ConfigSearch().sign(c), 1);
        }
    }

    @Edges.Says("2: how many it has (THE TAPE, 80 at most); FULL")
    static void p02Full() {
        ConfigSearch x = new ConfigSearch();
        for (int n = 1; n <= 80; n++) {
            Edges.due("sign() number " + n, x.sign(32), n);
        }
        Edges.due("sign() number 81", x.sign(97), FULL);
        Edges.due("sign() number 82", x.sign(32), FULL);
        Edges.due("count(6)", x.count(6), 80);
    }

    @Edges.Says("2: BAD is ahead of FULL")
    static void p02BadAheadOfFull() {
        ConfigSearch x = new ConfigSearch();
        Edges.type(x, " ".repeat(80));
        Edges.due("sign(256)", x.sign(256), BAD);
        Edges.due("sign(-1)", x.sign(-1), BAD);
    }

    @Edges.Says("2: a byte that is refused does not come onto THE TAPE")
    static void p02RefusedBytes() {
        ConfigSearch x = new ConfigSearch();
        Edges.type(x, "ab");
        x.sign(256);
        x.sign(-1);
        Edges.type(x, "c");
        Edges.due("read()", x.read(), 3);
        ConfigSearch y = new ConfigSearch();
        Edges.type(y, " ".repeat(77) + "abcd");
        Edges.due("read() of 80", y.read(), 3);
        Edges.due("line(0, 3)", y.line(0, 3, false), NONE);
    }

    @Edges.Says("2: a full TAPE has room again when it was read")
    static void p02RoomAgain() {
        for (String text : new String[] {" ".repeat(80), " ".repeat(77) + "abc"}) {
            ConfigSearch x = new ConfigSearch();
            Edges.type(x, text);
            x.read();
            for (int n = 1; n <= 80; n++) {
                Edges.due("sign() number " + n, x.sign(98), n);
            }
            Edges.due("sign() number 81", x.sign(98), FULL);
        }
    }

    // Promise 3: what THE TEXT may be

    @Edges.Says("3: words of 3 to 5 letters")
    static void p03WordLengths() {
        fine("abc", 3);
        fine("abcd", 4);
        fine("abcde", 5);
        fine("abc defgh", 8);
        fault("ab", 2);
        fault("abcdef", 5);
    }

    @Edges.Says("3: letters a .. j; THE FAULT is the first byte that is neither such a letter nor a blank")
    static void p03EachByteBehindAWord() {
        for (int c = 0; c < 256; c++) {
            String text = "abc" + (char) c;
            if (c == 32) {
                fine(text, 3);
            } else if (c >= 'd' && c <= 'j') {
                fine(text, 4);
            } else {
                fault(text, 3);
            }
        }
    }

    @Edges.Says("3: each byte as the first of all")
    static void p03EachByteAlone() {
        for (int c = 0; c < 256; c++) {
            boolean letterOrBlank = c == 32 || (c >= 'a' && c <= 'j');
            fault(String.valueOf((char) c), letterOrBlank ? 1 : 0);
        }
    }

    @Edges.Says("3: one blank or more between them")
    static void p03BlanksBetween() {
        fine("abc def", 6);
        fine("abc  def", 6);
        fine("abc" + " ".repeat(74) + "def", 6);
        fault("abcdef", 5);
    }

    @Edges.Says("3: as many as wished ahead and behind")
    static void p03BlanksAheadAndBehind() {
        fine(" abc", 3);
        fine("abc ", 3);
        fine(" ".repeat(77) + "abc", 3);
        fine("abc" + " ".repeat(77), 3);
        fine(" ".repeat(38) + "abcd" + " ".repeat(38), 4);
    }

    @Edges.Says("3: 1 to 12 LINES")
    static void p03TwelveLines() {
        ConfigSearch x = Edges.with("abc");
        Edges.due("count(1) of one", x.count(1), 1);
        ConfigSearch y = Edges.with(Edges.TWELVE);
        Edges.due("count(1) of twelve", y.count(1), 12);
        Edges.due("line(11, 2)", y.line(11, 2, true), 'j');
        Edges.due("line(12, 0)", y.line(12, 0, false), BAD);
        fine(Edges.TWELVE + " ".repeat(33), 36);
        fine(" ".repeat(33) + Edges.TWELVE, 36);
    }

    @Edges.Says("3: POINTS 0, 1, .. are the letters as they stand there first (10 at most)")
    static void p03TenPoints() {
        ConfigSearch x = Edges.with("jihgf edcba");
        Edges.due("count(0)", x.count(0), 10);
        Edges.due("line(0, 0)", x.line(0, 0, false), 0);
        Edges.due("line(1, 4)", x.line(1, 4, false), 9);
        Edges.due("line(1, 4) as a letter", x.line(1, 4, true), 'a');
        Edges.due("count(0) of three", Edges.with("jae").count(0), 3);
    }

    @Edges.Says("3: how many letters its words have together")
    static void p03Letters() {
        fine("abc", 3);
        fine("abc cde", 6);
        fine("abcde fghij", 10);
        fine("abcde afghi bfj", 13);
        fine(Edges.TWELVE, 36);
    }

    // Promise 3: THE FAULT

    @Edges.Says("3: THE FAULT: a letter that its word has already")
    static void p03FaultTwice() {
        fault("aa", 1);
        fault("aba", 2);
        fault("abb", 2);
        fault("abca", 3);
        fault("abcda", 4);
        fault("abcdd", 4);
        fault("abc dee", 6);
        fine("abc ade", 6);
    }

    @Edges.Says("3: THE FAULT: a sixth one")
    static void p03FaultSixth() {
        fault("abcdef", 5);
        fault("abcdea", 5);
        fault("abcdefghij", 5);
        fault("abc defghi", 9);
        fine("abcde fghij", 10);
    }

    @Edges.Says("3: THE FAULT: the first one of a 13th word")
    static void p03FaultThirteenth() {
        fault(Edges.TWELVE + " " + Edges.THIRTEENTH, 48);
        fault(Edges.TWELVE + "   " + Edges.THIRTEENTH, 50);
        fault(" " + Edges.TWELVE + " d", 49);
        fine(Edges.TWELVE + " ", 36);
        fine(Edges.TWELVE.substring(4) + " " + Edges.THIRTEENTH, 36);
        // a twelfth word that could take the letter itself
        String open = "aef beg cfg ceh bfh dgh dei agi dfj ahj bij abc";
        fine(open + "d", 37);
        fault(open + " d", 48);
        fault(open + " dab", 48);
    }

    @Edges.Says("3: THE FAULT: the second that its word has in common with a word ahead of it")
    static void p03FaultCommon() {
        fault("abc abd", 5);
        fault("abc bca", 5);
        fault("abc dac", 6);
        fault("abc dca", 6);
        fault("abcde fghae", 10);
        fault("abc abc", 5);
        fault("abc def ghb cbi", 13);
        fault("abc def adb", 10);
        fault("abc def adf", 10);
        fault("abc def ghi jab", 14);
    }

    @Edges.Says("3: the first that a word has in common with each word ahead of it is no FAULT")
    static void p03OneInCommon() {
        fine("abc cde", 6);
        fine("abc def adg", 9);
        fine("abc def ghi adg", 12);
        fine("abc ade afg ahi", 12);
        fine(Edges.FANO, 21);
    }

    @Edges.Says("3: THE FAULT: a blank behind the first or second letter of a word")
    static void p03FaultBlank() {
        fault("a bc", 1);
        fault("ab c", 2);
        fault("abc d efg", 5);
        fault("abc de fgh", 6);
        fault("  a ", 3);
        fault("  ab ", 4);
        fine("abc ", 3);
    }

    @Edges.Says("3: THE FAULT: else the end (THE TAPE's length), if a word has one or two letters there")
    static void p03FaultShortAtTheEnd() {
        fault("a", 1);
        fault("ab", 2);
        fault("abc d", 5);
        fault("abc de", 6);
        fault(" ".repeat(79) + "a", 80);
        fault(" ".repeat(78) + "ab", 80);
        fine(" ".repeat(77) + "abc", 3);
    }

    @Edges.Says("3: THE FAULT: else the end, if there is none")
    static void p03FaultNoWord() {
        fault("", 0);
        fault(" ", 1);
        fault("   ", 3);
        fault(" ".repeat(79), 79);
        fault(" ".repeat(80), 80);
    }

    @Edges.Says("3: of several such bytes THE FAULT is the first")
    static void p03FirstOfFaults() {
        fault("abk jkl", 2);
        fault("  ab cd zz", 4);
        fault("aab zz", 1);
        fault("abcdef!", 5);
        fault("abc abd!", 5);
        fault("a b!", 1);
        fault("!abc a", 0);
        fault("abc d! ", 5);
    }

    // Promise 3: what read() changes

    @Edges.Says("3: THE TAPE, empty then: also by a FAULT")
    static void p03TapeIsEmptyThen() {
        ConfigSearch x = new ConfigSearch();
        Edges.due("read()", Edges.tell(x, "abc"), 3);
        Edges.due("count(6)", x.count(6), 0);
        Edges.due("read() again", x.read(), -10);
        Edges.due("read() of a fault", Edges.tell(x, "abc k"), -14);
        Edges.due("count(6) behind a fault", x.count(6), 0);
        Edges.due("sign(97)", x.sign(97), 1);
        Edges.due("read() of one letter", x.read(), -11);
    }

    /** Two LINES, with a BARRED and three ORIENTED TRIPLES, a PICTURE and a ROW. */
    private static ConfigSearch busy() {
        ConfigSearch x = Edges.with("bac bde");
        Edges.barAll(x, 1, 2, 3);
        Edges.orientAll(x, 0, 1, 3, 1, 0, 2, 4, 1, 0, 1, 4, 1);
        Edges.due("realise(7, 20000)", x.realise(7, 20000), 1);
        Edges.due("deduce()", x.deduce(), 1);
        Edges.due("count(4)", x.count(4), 1);
        return x;
    }

    @Edges.Says("3: -10 less the place of THE FAULT: all else stays")
    static void p03AllElseStays() {
        String before = Edges.probe(busy());
        for (String text : new String[] {"", "   ", "abc ab", "abcdef", "jihg z", "abc abd", Edges.TWELVE + " dij"}) {
            ConfigSearch x = busy();
            Edges.due("read() is a fault", Edges.tell(x, text) <= -10);
            Edges.sameText("read() of '" + text + "'", Edges.probe(x), before);
        }
    }

    @Edges.Says("3: no TRIPLE is BARRED, ORIENTED then")
    static void p03NothingTold() {
        ConfigSearch x = busy();
        Edges.due("read()", Edges.tell(x, "bac bde"), 6);
        Edges.due("count(2)", x.count(2), 0);
        Edges.due("count(3)", x.count(3), 0);
        Edges.due("known(0, 1, 3)", x.known(0, 1, 3), NONE);
        Edges.due("orient(0, 1, 3, -1)", x.orient(0, 1, 3, -1), 1);
        Edges.due("bar(1, 2, 3)", x.bar(1, 2, 3), 1);
        Edges.due("bar(1, 2, 4)", x.bar(1, 2, 4), 2);
    }

    @Edges.Says("3: there is no PICTURE then")
    static void p03NoPicture() {
        ConfigSearch x = busy();
        Edges.due("read()", Edges.tell(x, "bac bde"), 6);
        Edges.due("check()", x.check(), Edges.STATE);
        Edges.due("coordinate(0, 0)", x.coordinate(0, 0), Edges.STATE);
        Edges.bothMeet(x, 0, 1, Edges.STATE);
    }

    @Edges.Says("3: there is no ROW then")
    static void p03NoRow() {
        ConfigSearch x = busy();
        Edges.due("read()", Edges.tell(x, "bac bde"), 6);
        Edges.due("count(4)", x.count(4), 0);
        Edges.due("row(0, 0)", x.row(0, 0), NONE);
        Edges.due("plant(0, 0)", x.plant(0, 0), NONE);
        Edges.due("certificate(0, 0)", x.certificate(0, 0), Edges.STATE);
        Edges.due("known(0, 2, 3)", x.known(0, 2, 3), NONE);
    }

    @Edges.Says("3: no realise() or deduce() was")
    static void p03NoCallWas() {
        ConfigSearch x = busy();
        Edges.due("read()", Edges.tell(x, "bac bde"), 6);
        Edges.due("count(5)", x.count(5), 0);
        Edges.due("count(7)", x.count(7), NONE);
    }

    @Edges.Says("3: THE TAPE is THE TEXT: POINTS and LINES are the new ones alone")
    static void p03TheNewText() {
        ConfigSearch x = Edges.with("abcde afghi bfj");
        Edges.due("read()", Edges.tell(x, "jah"), 3);
        Edges.due("count(0)", x.count(0), 3);
        Edges.due("count(1)", x.count(1), 1);
        Edges.due("line(0, 1)", x.line(0, 1, true), 'a');
        Edges.due("line(0, 3)", x.line(0, 3, false), NONE);
        Edges.due("line(1, 0)", x.line(1, 0, false), BAD);
        Edges.due("canonical(0)", x.canonical(0), 7);
        Edges.due("orbit(0)", x.orbit(0), 6);
        Edges.due("read() of more", Edges.tell(x, "abc def"), 6);
        Edges.due("known(0, 1, 2) is FLAT", x.known(0, 1, 2), 0);
        Edges.due("known(0, 1, 3) is not", x.known(0, 1, 3), NONE);
        Edges.due("canonical(1)", x.canonical(1), 56);
        Edges.due("orbit(0) of more", x.orbit(0), 72);
    }

    // Promise 4

    @Edges.Says("4: what = 0 .. 7; BAD")
    static void p04Bad() {
        ConfigSearch x = Edges.with("abc");
        for (int what : new int[] {-1, 8, 9, MIN, MAX}) {
            Edges.due("count(" + what + ")", x.count(what), BAD);
        }
    }

    @Edges.Says("4: 0 POINTS, 1 LINES")
    static void p04PointsAndLines() {
        ConfigSearch x = Edges.with(Edges.TWELVE);
        Edges.due("count(0)", x.count(0), 10);
        Edges.due("count(1)", x.count(1), 12);
    }

    @Edges.Says("4: 2 BARRED, 3 ORIENTED: as sets of POINTS")
    static void p04Told() {
        ConfigSearch x = Edges.with("abc ade");
        x.bar(0, 1, 3);
        x.bar(3, 1, 0);
        Edges.due("count(2)", x.count(2), 1);
        Edges.due("count(3)", x.count(3), 0);
        x.orient(0, 1, 3, 1);
        x.orient(1, 0, 3, -1);
        x.orient(1, 2, 3, -1);
        Edges.due("count(2)", x.count(2), 1);
        Edges.due("count(3)", x.count(3), 2);
    }

    @Edges.Says("4: 5 STEPS of the latest realise() (0)")
    static void p04Steps() {
        ConfigSearch x = Edges.with("abc");
        Edges.due("count(5) without one", x.count(5), 0);
        x.realise(0, 20000);
        Edges.due("count(5) of a PICTURE", x.count(5), 6);
        x.realise(0, 2);
        Edges.due("count(5) of the latest", x.count(5), 2);
        x.realise(4, 2);
        x.realise(0, 20001);
        Edges.due("count(5) behind refused ones", x.count(5), 2);
        ConfigSearch none = new ConfigSearch();
        none.realise(0, 5);
        Edges.due("count(5) without LINES", none.count(5), 0);
    }

    @Edges.Says("4: 6 bytes on THE TAPE")
    static void p04Tape() {
        ConfigSearch x = new ConfigSearch();
        for (int n = 1; n <= 80; n++) {
            x.sign(255);
            Edges.due("count(6)", x.count(6), n);
        }
        x.sign(255);
        Edges.due("count(6) of a full TAPE", x.count(6), 80);
        x.read();
        Edges.due("count(6) of an empty TAPE", x.count(6), 0);
    }

    @Edges.Says("4: 4 ROWS, 7 what the latest deduce() told (NONE)")
    static void p04Deduced() {
        ConfigSearch x = Edges.with("abc ade");
        Edges.due("count(7) without one", x.count(7), NONE);
        x.deduce();
        Edges.due("count(4) of none", x.count(4), 0);
        Edges.due("count(7) of none", x.count(7), 1);
        Edges.orientAll(x, 0, 1, 3, 1, 0, 2, 4, 1, 0, 1, 4, 1, 0, 2, 3, -1);
        Edges.due("count(7) is the latest's still", x.count(7), 1);
        x.deduce();
        Edges.due("count(4) of one", x.count(4), 1);
        Edges.due("count(7) of a BROKEN one", x.count(7), 0);
        ConfigSearch none = new ConfigSearch();
        none.deduce();
        Edges.due("count(7) without LINES", none.count(7), NONE);
    }

    // Promise 5

    @Edges.Says("5: BAD: no such LINE")
    static void p05NoSuchLine() {
        ConfigSearch x = Edges.with("abc ade");
        for (int line : new int[] {-1, 2, 12, MIN, MAX}) {
            Edges.due("line(" + line + ", 0)", x.line(line, 0, false), BAD);
            Edges.due("line(" + line + ", 0) as a letter", x.line(line, 0, true), BAD);
        }
        Edges.due("line(1, 0)", x.line(1, 0, false), 0);
    }

    @Edges.Says("5: BAD (i below 0, too)")
    static void p05Below() {
        ConfigSearch x = Edges.with("abc ade");
        for (int i : new int[] {-1, MIN}) {
            Edges.due("line(0, " + i + ")", x.line(0, i, false), BAD);
            Edges.due("line(1, " + i + ") as a letter", x.line(1, i, true), BAD);
        }
    }

    @Edges.Says("5: NONE: it has not so many")
    static void p05NotSoMany() {
        ConfigSearch x = Edges.with("abc adef bdghi");
        for (int line = 0; line < 3; line++) {
            int size = 3 + line;
            Edges.due("last of " + line, x.line(line, size - 1, true), "cfi".charAt(line));
            for (int i : new int[] {size, size + 1, 5, 12, MAX}) {
                Edges.due("line(" + line + ", " + i + ")", x.line(line, i, false), NONE);
                Edges.due("line(" + line + ", " + i + ") as a letter", x.line(line, i, true), NONE);
            }
        }
    }

    @Edges.Says("5: BAD is ahead of NONE")
    static void p05BadAhead() {
        ConfigSearch x = Edges.with("abc ade");
        Edges.due("line(2, 3)", x.line(2, 3, false), BAD);
        Edges.due("line(-1, 9)", x.line(-1, 9, true), BAD);
    }

    @Edges.Says("5: as its word has it; with letter the byte that it has there instead")
    static void p05AsItsWordHasIt() {
        ConfigSearch x = Edges.with("jcba  ehbdi");
        int[] points = {4, 5, 2, 6, 7};
        for (int i = 0; i < 5; i++) {
            Edges.due("line(1, " + i + ")", x.line(1, i, false), points[i]);
            Edges.due("line(1, " + i + ") as a letter", x.line(1, i, true), "ehbdi".charAt(i));
        }
    }
}
