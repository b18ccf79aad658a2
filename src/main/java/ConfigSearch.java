import java.util.Arrays;

/** Points and lines that are told to meet: pictures, signs that follow, kinds and renamings. */
public final class ConfigSearch {
    public static final int BAD = -9, STATE = -2, FULL = -3, NONE = -4;

    private static final int MOST_BYTES = 80;
    private static final int MOST_POINTS = 10;
    private static final int MOST_LINES = 12;
    private static final int MOST_LETTERS = 5;
    private static final int LEAST_LETTERS = 3;
    private static final int MOST_TOLD = 20;
    private static final int MOST_STEPS = 20000;
    private static final int MOST_ROWS = 60;
    private static final int MOST_RENAMED = 7;
    private static final int FIRST_FAULT = -10;
    private static final int BLANK = 32;
    private static final int TRIPLES = 120;
    private static final int GRID = 0;
    private static final int GRID_SIDE = 5;
    private static final int MOST_PLACES = 183;
    private static final int[] PRIMES = {2, 3, 5, 7, 11, 13};

    private final int[] tape = new int[MOST_BYTES];
    private int onTape = 0;
    private Text text = new Text();
    private Text spare = new Text();
    private final Told told = new Told();
    private final Search search = new Search(told);
    private final Following following = new Following(told);
    private final Forms forms = new Forms();

    public ConfigSearch() {
    }

    public int sign(int c) {
        if (c < 0 || c > 255) {
            return BAD;
        }
        if (onTape >= MOST_BYTES) {
            return FULL;
        }
        tape[onTape] = c;
        onTape++;
        return onTape;
    }

    public int read() {
        int fault = spare.take(tape, onTape);
        onTape = 0;
        if (fault >= 0) {
            return FIRST_FAULT - fault;
        }
        Text old = text;
        text = spare;
        spare = old;
        told.startWith(text);
        search.forget();
        following.forget();
        forms.forget();
        return text.letters;
    }

    public int count(int what) {
        switch (what) {
            case 0: return text.points;
            case 1: return text.lines;
            case 2: return told.barredOnes;
            case 3: return told.orientedOnes;
            case 4: return following.rows;
            case 5: return search.steps;
            case 6: return onTape;
            case 7: return following.outcome;
            default: return BAD;
        }
    }

    public int line(int line, int i, boolean letter) {
        if (!text.hasLine(line) || i < 0) {
            return BAD;
        }
        if (i >= text.size[line]) {
            return NONE;
        }
        int point = text.word[line][i];
        return letter ? text.letterOf[point] : point;
    }

    public int bar(int a, int b, int c) {
        if (!text.isTriple(a, b, c)) {
            return BAD;
        }
        int spot = Told.spotOf(a, b, c);
        if (told.flat[spot]) {
            return STATE;
        }
        return told.addBarred(spot);
    }

    public int orient(int a, int b, int c, int sign) {
        if (!text.isTriple(a, b, c) || (sign != 1 && sign != -1)) {
            return BAD;
        }
        int spot = Told.spotOf(a, b, c);
        int rising = sign * Told.turnOf(a, b, c);
        if (told.flat[spot] || told.oriented[spot] == -rising) {
            return STATE;
        }
        return told.addOriented(spot, rising);
    }

    public int realise(int field, int steps) {
        if ((field != GRID && !isPrime(field)) || steps < 1 || steps > MOST_STEPS) {
            return BAD;
        }
        if (text.lines == 0) {
            return STATE;
        }
        return search.seek(text.points, field, steps);
    }

    public int coordinate(int point, int i) {
        if (!text.hasPoint(point) || i < 0 || i > 3) {
            return BAD;
        }
        if (!search.found) {
            return STATE;
        }
        return search.numberOf(point, i);
    }

    public int check() {
        if (!search.found) {
            return STATE;
        }
        return search.stillHolds(text.points) ? 1 : 0;
    }

    public int meet(int line, int other) throws ArithmeticException {
        int place = placeOfBoth(line, other);
        if (place == NONE) {
            throw new ArithmeticException("the lines lie on one another");
        }
        return place;
    }

    public int meets(int line, int other) {
        return placeOfBoth(line, other);
    }

    public int pivot(int p, int v, int d) throws ArithmeticException {
        if (!isPrime(p)) {
            return BAD;
        }
        int quotient = Plane.quotient(p, v, d);
        if (quotient == NONE) {
            throw new ArithmeticException("the divisor is a multiple of the prime");
        }
        return quotient;
    }

    public int deduce() {
        if (text.lines == 0) {
            return STATE;
        }
        return following.follow(text.points);
    }

    public int row(int i, int what) {
        if (what < 0 || what > 9) {
            return BAD;
        }
        if (!following.hasRow(i)) {
            return NONE;
        }
        return following.entry(i, what);
    }

    public int plant(int i, int v) {
        if (v < -1 || v > 1) {
            return BAD;
        }
        if (!following.hasRow(i) || following.kind[i] == Following.BROKEN) {
            return NONE;
        }
        int was = following.signs[i];
        following.signs[i] = v;
        return was;
    }

    public int proof() {
        return following.allFollow() ? 1 : 0;
    }

    public int known(int a, int b, int c) {
        if (!text.isTriple(a, b, c)) {
            return BAD;
        }
        following.gather(following.rows);
        return following.signNow(a, b, c);
    }

    public int certificate(int i, int side) {
        if (i < 0 || i > 2 || side < 0 || side > 2) {
            return BAD;
        }
        if (following.rows == 0) {
            return STATE;
        }
        return following.lastTerm(i, side);
    }

    public int kinds(int n, int m) {
        if (n < 3 || n > Forms.MOST_KIND_POINTS || m < 0 || m > Forms.MOST_KIND_LINES) {
            return BAD;
        }
        return forms.kindsOf(n, m);
    }

    public int canonical(int i) {
        if (!renamable()) {
            return STATE;
        }
        if (i < 0 || i >= text.lines) {
            return NONE;
        }
        forms.study(text);
        return forms.least[i];
    }

    public int orbit(int n) {
        if (n < 0) {
            return BAD;
        }
        if (!renamable()) {
            return STATE;
        }
        if (n > Forms.MOST_ORDER) {
            return 0;
        }
        forms.study(text);
        return forms.keeping[n];
    }

    private boolean renamable() {
        return text.lines > 0 && text.points <= MOST_RENAMED;
    }

    /** What meet() and meets() share: NONE where the LINES lie on one another. */
    private int placeOfBoth(int line, int other) {
        if (!text.hasLine(line) || !text.hasLine(other) || line == other) {
            return BAD;
        }
        if (!search.found || search.plane.field == GRID) {
            return STATE;
        }
        return search.placeOnBoth(text.word[line], text.word[other]);
    }

    private static boolean isPrime(int p) {
        for (int prime : PRIMES) {
            if (prime == p) {
                return true;
            }
        }
        return false;
    }

    /** THE TEXT as it was read: POINTS and LINES. */
    private static final class Text {
        int points = 0;
        int lines = 0;
        int letters = 0;
        /** The byte of each POINT. */
        final int[] letterOf = new int[MOST_POINTS];
        final int[] size = new int[MOST_LINES];
        final int[][] word = new int[MOST_LINES][MOST_LETTERS];
        /** Each LINE as a sum of 2^POINT. */
        final int[] mask = new int[MOST_LINES];
        private boolean inWord = false;

        boolean hasPoint(int point) {
            return point >= 0 && point < points;
        }

        boolean hasLine(int line) {
            return line >= 0 && line < lines;
        }

        boolean isTriple(int a, int b, int c) {
            return hasPoint(a) && hasPoint(b) && hasPoint(c) && a != b && a != c && b != c;
        }

        /** Reads the first bytes of a row anew: the place of THE FAULT, or -1. */
        int take(int[] bytes, int length) {
            points = 0;
            lines = 0;
            letters = 0;
            inWord = false;
            for (int i = 0; i < length && i < bytes.length; i++) {
                boolean fine = bytes[i] == BLANK ? endsWord() : addsLetter(bytes[i]);
                if (!fine) {
                    return i;
                }
            }
            return endsWord() && lines > 0 ? -1 : length;
        }

        private boolean endsWord() {
            if (inWord && size[lines - 1] < LEAST_LETTERS) {
                return false;
            }
            inWord = false;
            return true;
        }

        private boolean addsLetter(int letter) {
            if (letter < 'a' || letter > 'j' || (!inWord && !startsWord())) {
                return false;
            }
            int line = lines - 1;
            int point = pointOf(letter);
            if (size[line] >= MOST_LETTERS || clashes(line, 1 << point)) {
                return false;
            }
            word[line][size[line]] = point;
            size[line]++;
            mask[line] |= 1 << point;
            letters++;
            return true;
        }

        private boolean startsWord() {
            if (lines >= MOST_LINES) {
                return false;
            }
            size[lines] = 0;
            mask[lines] = 0;
            lines++;
            inWord = true;
            return true;
        }

        /** The POINT of a letter, a new one if it has none (ten letters: there is always room). */
        private int pointOf(int letter) {
            for (int point = 0; point < points; point++) {
                if (letterOf[point] == letter) {
                    return point;
                }
            }
            letterOf[points] = letter;
            points++;
            return points - 1;
        }

        private boolean clashes(int line, int bit) {
            if ((mask[line] & bit) != 0) {
                return true;
            }
            int grown = mask[line] | bit;
            for (int ahead = 0; ahead < line; ahead++) {
                if (Integer.bitCount(mask[ahead] & grown) > 1) {
                    return true;
                }
            }
            return false;
        }
    }

    /** What is told of TRIPLES; each set of three POINTS has a spot, sets of low POINTS first. */
    private static final class Told {
        final boolean[] flat = new boolean[TRIPLES];
        final boolean[] barred = new boolean[TRIPLES];
        /** SIGN of the rising TRIPLE, 0 if it is not ORIENTED. */
        final int[] oriented = new int[TRIPLES];
        int barredOnes = 0;
        int orientedOnes = 0;

        static int spotOf(int a, int b, int c) {
            int low = Math.min(a, Math.min(b, c));
            int high = Math.max(a, Math.max(b, c));
            int middle = a + b + c - low - high;
            return high * (high - 1) * (high - 2) / 6 + middle * (middle - 1) / 2 + low;
        }

        /** By what a SIGN turns when its TRIPLE is brought into rising order. */
        static int turnOf(int a, int b, int c) {
            int exchanges = (a > b ? 1 : 0) + (a > c ? 1 : 0) + (b > c ? 1 : 0);
            return (exchanges & 1) == 0 ? 1 : -1;
        }

        void startWith(Text text) {
            for (int spot = 0; spot < TRIPLES; spot++) {
                flat[spot] = false;
                barred[spot] = false;
                oriented[spot] = 0;
            }
            barredOnes = 0;
            orientedOnes = 0;
            for (int line = 0; line < text.lines; line++) {
                flatten(text.word[line], text.size[line]);
            }
        }

        private void flatten(int[] word, int size) {
            for (int i = 0; i < size; i++) {
                for (int j = 0; j < i; j++) {
                    for (int k = 0; k < j; k++) {
                        flat[spotOf(word[i], word[j], word[k])] = true;
                    }
                }
            }
        }

        int addBarred(int spot) {
            if (!barred[spot]) {
                if (barredOnes >= MOST_TOLD) {
                    return FULL;
                }
                barred[spot] = true;
                barredOnes++;
            }
            return barredOnes;
        }

        int addOriented(int spot, int rising) {
            if (oriented[spot] == 0) {
                if (orientedOnes >= MOST_TOLD) {
                    return FULL;
                }
                oriented[spot] = rising;
                orientedOnes++;
            }
            return orientedOnes;
        }
    }

    /** PLACES of a FIELD. */
    private static final class Plane {
        int field = GRID;
        int size = 0;
        /** Three numbers of each PLACE. */
        final int[][] numbers = new int[3][MOST_PLACES];

        void choose(int chosen) {
            field = chosen;
            size = 0;
            if (field != GRID) {
                add(0, 0, 1);
                for (int z = 0; z < field; z++) {
                    add(0, 1, z);
                }
            }
            int side = field == GRID ? GRID_SIDE : field;
            for (int y = 0; y < side; y++) {
                for (int z = 0; z < side; z++) {
                    add(1, y, z);
                }
            }
        }

        private void add(int x, int y, int z) {
            if (size < MOST_PLACES) {
                numbers[0][size] = x;
                numbers[1][size] = y;
                numbers[2][size] = z;
                size++;
            }
        }

        int rest(int value) {
            return field == GRID ? value : Math.floorMod(value, field);
        }

        /** Over a prime: the PLACE whose numbers are a multiple of these; NONE if all are 0. */
        int placeAt(int[] v) {
            if (v[0] != 0) {
                return field + 1 + quotient(field, v[1], v[0]) * field + quotient(field, v[2], v[0]);
            }
            if (v[1] != 0) {
                return 1 + quotient(field, v[2], v[1]);
            }
            return v[2] != 0 ? 0 : NONE;
        }

        /** v by d over a prime, NONE if d is a multiple of it. */
        static int quotient(int prime, int v, int d) {
            if (prime <= 0) {
                return NONE;
            }
            int dividend = Math.floorMod(v, prime);
            int divisor = Math.floorMod(d, prime);
            for (int r = 0; r < prime && divisor != 0; r++) {
                if (r * divisor % prime == dividend) {
                    return r;
                }
            }
            return NONE;
        }
    }

    /** THE SEARCH and THE PICTURE that it found. */
    private static final class Search {
        private static final int NOT_ZERO = 2;

        final Plane plane = new Plane();
        boolean found = false;
        int steps = 0;
        private final Told told;
        private final int[] places = new int[MOST_POINTS];
        /** Wants are sorted by the highest POINT of their TRIPLES: where those of each begin. */
        private final int[] begin = new int[MOST_POINTS + 1];
        private final int[] low = new int[TRIPLES];
        private final int[] middle = new int[TRIPLES];
        /** VALUE that is wanted: 0, NOT_ZERO, or its SIGN. */
        private final int[] wanted = new int[TRIPLES];
        /** Of each want: what the highest POINT's numbers are multiplied by in VALUE. */
        private final int[][] factor = new int[3][TRIPLES];
        private final int[] onePlace = new int[3];
        private final int[] otherPlace = new int[3];
        private final int[] oneLine = new int[3];
        private final int[] otherLine = new int[3];

        Search(Told told) {
            this.told = told;
        }

        void forget() {
            found = false;
            steps = 0;
        }

        int seek(int points, int field, int limit) {
            plane.choose(field);
            gatherWants(points);
            forget();
            int point = 0;
            enter(point);
            while (steps < limit) {
                steps++;
                places[point]++;
                if (goes(point)) {
                    point++;
                    if (point >= points) {
                        found = true;
                        return 1;
                    }
                    enter(point);
                }
                while (point >= 0 && places[point] + 1 >= plane.size) {
                    point--;
                }
                if (point < 0) {
                    return 0;
                }
            }
            return 2;
        }

        boolean stillHolds(int points) {
            gatherWants(points);
            for (int point = 0; point < points; point++) {
                prepare(point);
                if (!goes(point)) {
                    return false;
                }
            }
            return true;
        }

        int numberOf(int point, int i) {
            int place = places[point];
            return i < 3 ? plane.numbers[i][place] : place;
        }

        int placeOnBoth(int[] word, int[] otherWord) {
            joinPoints(word[0], word[1], oneLine);
            joinPoints(otherWord[0], otherWord[1], otherLine);
            cross(oneLine, otherLine, onePlace);
            return plane.placeAt(onePlace);
        }

        private void joinPoints(int point, int other, int[] line) {
            numbersOf(point, onePlace);
            numbersOf(other, otherPlace);
            cross(onePlace, otherPlace, line);
        }

        private void numbersOf(int point, int[] into) {
            for (int i = 0; i < 3; i++) {
                into[i] = plane.numbers[i][places[point]];
            }
        }

        private void cross(int[] u, int[] v, int[] into) {
            into[0] = plane.rest(u[1] * v[2] - u[2] * v[1]);
            into[1] = plane.rest(u[2] * v[0] - u[0] * v[2]);
            into[2] = plane.rest(u[0] * v[1] - u[1] * v[0]);
        }

        private void gatherWants(int points) {
            int wants = 0;
            for (int high = 0; high < points; high++) {
                begin[high] = wants;
                for (int second = 1; second < high; second++) {
                    for (int first = 0; first < second; first++) {
                        int spot = Told.spotOf(first, second, high);
                        if (isWanted(spot)) {
                            low[wants] = first;
                            middle[wants] = second;
                            wanted[wants] = wantOf(spot);
                            wants++;
                        }
                    }
                }
            }
            begin[points] = wants;
        }

        private boolean isWanted(int spot) {
            return told.flat[spot] || told.barred[spot] || told.oriented[spot] != 0;
        }

        private int wantOf(int spot) {
            if (told.flat[spot]) {
                return 0;
            }
            boolean signed = plane.field == GRID && told.oriented[spot] != 0;
            return signed ? told.oriented[spot] : NOT_ZERO;
        }

        private void enter(int point) {
            places[point] = -1;
            prepare(point);
        }

        private void prepare(int point) {
            for (int want = begin[point]; want < begin[point + 1]; want++) {
                joinPoints(low[want], middle[want], oneLine);
                for (int i = 0; i < 3; i++) {
                    factor[i][want] = oneLine[i];
                }
            }
        }

        private boolean goes(int point) {
            int place = places[point];
            for (int before = 0; before < point; before++) {
                if (places[before] == place) {
                    return false;
                }
            }
            int x = plane.numbers[0][place];
            int y = plane.numbers[1][place];
            int z = plane.numbers[2][place];
            for (int want = begin[point]; want < begin[point + 1]; want++) {
                int value = x * factor[0][want] + y * factor[1][want] + z * factor[2][want];
                if (!fits(plane.rest(value), wanted[want])) {
                    return false;
                }
            }
            return true;
        }

        private static boolean fits(int value, int want) {
            return want == NOT_ZERO ? value != 0 : Integer.compare(value, 0) == want;
        }
    }

    /** FOLLOWING and its ROWS. */
    private static final class Following {
        static final int BROKEN = 1;
        private static final int USUAL = 0;
        private static final int AGAINST_BAR = 2;
        /** Which POINTS of a RELATION stand behind its a: both SIGNS of each TERM, two by two. */
        private static final int[] BEHIND = {1, 2, 3, 4, 1, 3, 2, 4, 1, 4, 2, 3};
        private static final int[] TERM_TURN = {1, -1, 1};

        int rows = 0;
        int outcome = NONE;
        final int[] kind = new int[MOST_ROWS];
        /** SIGN of each ROW's rising TRIPLE. */
        final int[] signs = new int[MOST_ROWS];
        private final Told told;
        private final int[] relations = new int[5 * MOST_ROWS];
        private final int[] triples = new int[3 * MOST_ROWS];
        /** SIGNS that are KNOWN, else NONE, of all orders of three POINTS. */
        private final int[] now = new int[MOST_POINTS * MOST_POINTS * MOST_POINTS];
        /** The RELATION that is looked at, and what it has TOLD. */
        private final int[] relation = new int[5];
        private final int[] toldTriple = new int[3];
        private int toldSign = 0;

        Following(Told told) {
            this.told = told;
        }

        void forget() {
            rows = 0;
            outcome = NONE;
        }

        boolean hasRow(int i) {
            return i >= 0 && i < rows;
        }

        int entry(int i, int what) {
            if (what == 0) {
                return kind[i];
            }
            if (what <= 5) {
                return relations[5 * i + what - 1];
            }
            return what <= 8 ? triples[3 * i + what - 6] : signs[i];
        }

        int follow(int points) {
            forget();
            gather(0);
            outcome = 2;
            for (int turn = 0; turn < MOST_ROWS; turn++) {
                int next = firstKind(points);
                if (next == NONE) {
                    outcome = 1;
                    break;
                }
                addRow(next);
                if (next != USUAL) {
                    outcome = 0;
                    break;
                }
                learn(rows - 1);
            }
            return outcome;
        }

        boolean allFollow() {
            gather(0);
            for (int i = 0; i < rows; i++) {
                recall(i);
                if (judge() != kind[i] || (kind[i] != BROKEN && !tellsSame(i))) {
                    return false;
                }
                learn(i);
            }
            return true;
        }

        int lastTerm(int term, int side) {
            gather(rows);
            recall(rows - 1);
            if (side < 2) {
                return signIn(term, side);
            }
            int one = signIn(term, 0);
            int other = signIn(term, 1);
            return one == NONE || other == NONE ? NONE : TERM_TURN[term] * one * other;
        }

        /** Makes KNOWN what FLAT and ORIENTED TRIPLES and the first ROWS tell. */
        void gather(int ahead) {
            Arrays.fill(now, NONE);
            for (int high = 2; high < MOST_POINTS; high++) {
                for (int middle = 1; middle < high; middle++) {
                    for (int low = 0; low < middle; low++) {
                        int spot = Told.spotOf(low, middle, high);
                        if (told.flat[spot] || told.oriented[spot] != 0) {
                            setNow(low, middle, high, told.oriented[spot]);
                        }
                    }
                }
            }
            for (int i = 0; i < ahead; i++) {
                learn(i);
            }
        }

        int signNow(int a, int b, int c) {
            return now[orderOf(a, b, c)];
        }

        private void learn(int i) {
            if (kind[i] != BROKEN) {
                setNow(triples[3 * i], triples[3 * i + 1], triples[3 * i + 2], signs[i]);
            }
        }

        private void setNow(int a, int b, int c, int sign) {
            now[orderOf(a, b, c)] = sign;
            now[orderOf(b, c, a)] = sign;
            now[orderOf(c, a, b)] = sign;
            now[orderOf(b, a, c)] = -sign;
            now[orderOf(a, c, b)] = -sign;
            now[orderOf(c, b, a)] = -sign;
        }

        private static int orderOf(int a, int b, int c) {
            return (a * MOST_POINTS + b) * MOST_POINTS + c;
        }

        private void recall(int i) {
            System.arraycopy(relations, 5 * i, relation, 0, 5);
        }

        private boolean tellsSame(int i) {
            for (int j = 0; j < 3; j++) {
                if (triples[3 * i + j] != toldTriple[j]) {
                    return false;
                }
            }
            return signs[i] == toldSign;
        }

        private void addRow(int newKind) {
            boolean broken = newKind == BROKEN;
            kind[rows] = newKind;
            signs[rows] = broken ? 0 : toldSign;
            System.arraycopy(relation, 0, relations, 5 * rows, 5);
            for (int j = 0; j < 3; j++) {
                triples[3 * rows + j] = broken ? NONE : toldTriple[j];
            }
            rows++;
        }

        /** Looks for the first RELATION that makes a ROW: its kind, or NONE. */
        private int firstKind(int points) {
            int others = points - 1;
            for (int a = 0; a < points; a++) {
                for (int b = 0; b < others; b++) {
                    for (int c = b + 1; c < others; c++) {
                        for (int d = c + 1; d < others; d++) {
                            for (int e = d + 1; e < others; e++) {
                                setRelation(a, b, c, d, e);
                                int next = judge();
                                if (next != NONE) {
                                    return next;
                                }
                            }
                        }
                    }
                }
            }
            return NONE;
        }

        /** b to e are numbers among the POINTS without a, so that none of them is a. */
        private void setRelation(int a, int b, int c, int d, int e) {
            relation[0] = a;
            relation[1] = b < a ? b : b + 1;
            relation[2] = c < a ? c : c + 1;
            relation[3] = d < a ? d : d + 1;
            relation[4] = e < a ? e : e + 1;
        }

        private int signIn(int term, int side) {
            int at = 4 * term + 2 * side;
            return now[orderOf(relation[0], relation[BEHIND[at]], relation[BEHIND[at + 1]])];
        }

        /** The kind of ROW that the RELATION makes by what is KNOWN, NONE if it makes none. */
        private int judge() {
            int openTerm = NONE;
            int above = 0;
            int below = 0;
            for (int term = 0; term < 3; term++) {
                int one = signIn(term, 0);
                int other = signIn(term, 1);
                if (one != NONE && other != NONE) {
                    int product = TERM_TURN[term] * one * other;
                    above += product > 0 ? 1 : 0;
                    below += product < 0 ? 1 : 0;
                } else if (openTerm != NONE || one == other) {
                    return NONE;
                } else {
                    openTerm = term;
                }
            }
            boolean balanced = (above > 0) == (below > 0);
            if (openTerm == NONE) {
                return balanced ? NONE : BROKEN;
            }
            if (balanced && above > 0) {
                return NONE;
            }
            return tell(openTerm, balanced ? 0 : above > 0 ? -1 : 1);
        }

        /** TERM has one SIGN that is not KNOWN, and must be below, at or above 0 as due says. */
        private int tell(int term, int due) {
            int open = signIn(term, 0) == NONE ? 0 : 1;
            int partner = signIn(term, 1 - open);
            if (partner == 0) {
                return NONE;
            }
            int at = 4 * term + 2 * open;
            int a = relation[0];
            int b = relation[BEHIND[at]];
            int c = relation[BEHIND[at + 1]];
            toldSign = due * TERM_TURN[term] * partner * Told.turnOf(a, b, c);
            toldTriple[0] = Math.min(a, Math.min(b, c));
            toldTriple[2] = Math.max(a, Math.max(b, c));
            toldTriple[1] = a + b + c - toldTriple[0] - toldTriple[2];
            return toldSign == 0 && told.barred[Told.spotOf(a, b, c)] ? AGAINST_BAR : USUAL;
        }
    }

    /** RENAMINGS, THE LEAST FORM, KINDS; a form is a rising row of LINES as sums of 2^POINT. */
    private static final class Forms {
        static final int MOST_KIND_POINTS = 6;
        static final int MOST_KIND_LINES = 4;
        /** The highest ORDER of a RENAMING of seven POINTS: a round of 3 beside one of 4. */
        static final int MOST_ORDER = 12;
        private static final int NOT_COUNTED = -1;

        final int[] least = new int[MOST_LINES];
        /** How many RENAMINGS of each ORDER KEEP; at 0 all of them. */
        final int[] keeping = new int[MOST_ORDER + 1];
        private boolean studied = false;
        private final int[] own = new int[MOST_LINES];
        private final int[] image = new int[MOST_LINES];
        private final int[] renaming = new int[MOST_RENAMED];
        private final int[] moved = new int[MOST_RENAMED];
        private final int[] chosen = new int[MOST_KIND_LINES];
        private final int[] counted = new int[(MOST_KIND_POINTS + 1) * (MOST_KIND_LINES + 1)];

        Forms() {
            Arrays.fill(counted, NOT_COUNTED);
        }

        void forget() {
            studied = false;
        }

        /** LINES change by read() alone, so that one look at all RENAMINGS serves till then. */
        void study(Text text) {
            if (studied) {
                return;
            }
            studied = true;
            int lines = text.lines;
            Arrays.fill(keeping, 0);
            System.arraycopy(text.mask, 0, own, 0, lines);
            sort(own, lines);
            System.arraycopy(own, 0, least, 0, lines);
            startRenaming();
            int all = factorial(text.points);
            for (int n = 0; n < all; n++) {
                rename(own, lines);
                if (compareRows(image, least, lines) < 0) {
                    System.arraycopy(image, 0, least, 0, lines);
                }
                if (compareRows(image, own, lines) == 0) {
                    keeping[0]++;
                    keeping[orderOfRenaming(text.points)]++;
                }
                nextRenaming(text.points);
            }
        }

        int kindsOf(int n, int m) {
            int at = n * (MOST_KIND_LINES + 1) + m;
            if (counted[at] == NOT_COUNTED) {
                counted[at] = leastFrom(0, 0, n, m);
            }
            return counted[at];
        }

        /** How many forms of m LINES, the first ones as chosen, are least: each KIND has one. */
        private int leastFrom(int depth, int lowest, int n, int m) {
            if (depth >= m || depth >= MOST_KIND_LINES) {
                return isLeast(n, m) ? 1 : 0;
            }
            int total = 0;
            for (int mask = lowest; mask < 1 << n; mask++) {
                if (Integer.bitCount(mask) == 3 && standsBeside(mask, depth)) {
                    chosen[depth] = mask;
                    total += leastFrom(depth + 1, mask + 1, n, m);
                }
            }
            return total;
        }

        private boolean standsBeside(int mask, int depth) {
            for (int i = 0; i < depth; i++) {
                if (Integer.bitCount(chosen[i] & mask) > 1) {
                    return false;
                }
            }
            return true;
        }

        private boolean isLeast(int n, int m) {
            startRenaming();
            int all = factorial(n);
            for (int i = 0; i < all; i++) {
                rename(chosen, m);
                if (compareRows(image, chosen, m) < 0) {
                    return false;
                }
                nextRenaming(n);
            }
            return true;
        }

        private void startRenaming() {
            for (int i = 0; i < MOST_RENAMED; i++) {
                renaming[i] = i;
            }
        }

        /** The next RENAMING of the first POINTS in the order of a dictionary. */
        private void nextRenaming(int points) {
            int i = points - 2;
            while (i >= 0 && renaming[i] > renaming[i + 1]) {
                i--;
            }
            if (i < 0) {
                return;
            }
            int j = points - 1;
            while (j > i && renaming[j] < renaming[i]) {
                j--;
            }
            exchange(i, j);
            for (int from = i + 1, to = points - 1; from < to; from++, to--) {
                exchange(from, to);
            }
        }

        private void exchange(int i, int j) {
            int kept = renaming[i];
            renaming[i] = renaming[j];
            renaming[j] = kept;
        }

        private void rename(int[] form, int lines) {
            for (int line = 0; line < lines; line++) {
                int sum = 0;
                for (int point = 0; point < MOST_RENAMED; point++) {
                    sum |= ((form[line] >> point) & 1) << renaming[point];
                }
                image[line] = sum;
            }
            sort(image, lines);
        }

        private int orderOfRenaming(int points) {
            for (int i = 0; i < points; i++) {
                moved[i] = i;
            }
            for (int times = 1; times < MOST_ORDER; times++) {
                boolean home = true;
                for (int i = 0; i < points; i++) {
                    moved[i] = renaming[moved[i]];
                    home &= moved[i] == i;
                }
                if (home) {
                    return times;
                }
            }
            return MOST_ORDER;
        }

        private static int factorial(int n) {
            int product = 1;
            for (int i = 2; i <= n; i++) {
                product *= i;
            }
            return product;
        }

        private static void sort(int[] row, int length) {
            for (int i = 1; i < length; i++) {
                for (int j = i; j > 0 && row[j - 1] > row[j]; j--) {
                    int kept = row[j];
                    row[j] = row[j - 1];
                    row[j - 1] = kept;
                }
            }
        }

        private static int compareRows(int[] row, int[] other, int length) {
            for (int i = 0; i < length; i++) {
                if (row[i] != other[i]) {
                    return Integer.compare(row[i], other[i]);
                }
            }
            return 0;
        }
    }
}
