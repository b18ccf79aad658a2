import java.lang.annotation.Retention;
import java.lang.annotation.RetentionPolicy;
import java.lang.reflect.InvocationTargetException;
import java.lang.reflect.Method;
import java.util.Arrays;
import java.util.Comparator;

/** What the tests of edges share: a method marked with Says is the test of one sentence of the document. */
final class Edges {
    /** The numbers are written out here, so that a test also fails if a constant is another one. */
    static final int BAD = -9, STATE = -2, FULL = -3, NONE = -4;
    /** Stands for an ArithmeticException; no call answers it. */
    static final int THROWN = -77;
    static final int MIN = Integer.MIN_VALUE, MAX = Integer.MAX_VALUE;
    static final int[] PRIMES = {2, 3, 5, 7, 11, 13};
    static final String FANO = "abc ade afg bdf beg cdg cef";
    /** Twelve words of three letters, no two with two letters in common: 47 bytes; a thirteenth. */
    static final String TWELVE = "abc ade bdf cef cdg beh agh afi bgi chi egj fhj";
    static final String THIRTEENTH = "dij";

    private static String sentence = "";
    private static int wrong = 0;

    private Edges() {
    }

    @Retention(RetentionPolicy.RUNTIME)
    @interface Says {
        String value();
    }

    interface Call {
        int on(ConfigSearch x);
    }

    /** Runs each test of a class; ends with exit code 1 if an answer is not as due. */
    static void run(Class<?> tests) throws IllegalAccessException {
        Method[] methods = tests.getDeclaredMethods();
        Arrays.sort(methods, Comparator.comparing(Method::getName));
        int ran = 0;
        for (Method method : methods) {
            Says says = method.getAnnotation(Says.class);
            if (says == null) {
                continue;
            }
            ran++;
            sentence = method.getName() + " [" + says.value() + "]";
            runOne(method);
        }
        if (ran == 0) {
            wrong++;
        }
        System.out.println(wrong == 0 ? ran + " sentences hold" : wrong + " answers are not as due");
        if (wrong != 0) {
            System.exit(1);
        }
    }

    private static void runOne(Method method) throws IllegalAccessException {
        try {
            method.invoke(null);
        } catch (InvocationTargetException e) {
            wrong++;
            System.out.println(sentence + ": thrown " + e.getCause());
        }
    }

    static void due(String call, int got, int want) {
        if (got != want) {
            wrong++;
            System.out.println(sentence + ": " + call + " answered " + got + ", due is " + want);
        }
    }

    static void due(String call, boolean got) {
        due(call, got ? 1 : 0, 1);
    }

    static void sameText(String call, String got, String want) {
        if (!got.equals(want)) {
            wrong++;
            System.out.println(sentence + ": " + call + " leads to " + got + ", due is " + want);
        }
    }

    /** The bytes of a text come behind THE TAPE. */
    static void type(ConfigSearch x, String text) {
        for (int i = 0; i < text.length(); i++) {
            x.sign(text.charAt(i));
        }
    }

    static int tell(ConfigSearch x, String text) {
        type(x, text);
        return x.read();
    }

    /** A new object with a text that must be fine. */
    static ConfigSearch with(String text) {
        ConfigSearch x = new ConfigSearch();
        due("read() of '" + text + "'", tell(x, text), text.replace(" ", "").length());
        return x;
    }

    /** Tells SIGNS, four numbers each; each must be new. */
    static ConfigSearch orientAll(ConfigSearch x, int... told) {
        int before = x.count(3);
        for (int i = 0; i < told.length; i += 4) {
            due("orient() number " + i / 4, x.orient(told[i], told[i + 1], told[i + 2], told[i + 3]), before + i / 4 + 1);
        }
        return x;
    }

    /** Bars TRIPLES, three numbers each; each must be new. */
    static ConfigSearch barAll(ConfigSearch x, int... told) {
        int before = x.count(2);
        for (int i = 0; i < told.length; i += 3) {
            due("bar() number " + i / 3, x.bar(told[i], told[i + 1], told[i + 2]), before + i / 3 + 1);
        }
        return x;
    }

    static int meet(ConfigSearch x, int line, int other) {
        try {
            return x.meet(line, other);
        } catch (ArithmeticException e) {
            return THROWN;
        }
    }

    static int pivot(ConfigSearch x, int p, int v, int d) {
        try {
            return x.pivot(p, v, d);
        } catch (ArithmeticException e) {
            return THROWN;
        }
    }

    /** meet() and meets() answer alike, but where meet() throws. */
    static void bothMeet(ConfigSearch x, int line, int other, int want) {
        due("meet(" + line + ", " + other + ")", meet(x, line, other), want);
        due("meets(" + line + ", " + other + ")", x.meets(line, other), want == THROWN ? NONE : want);
    }

    static void rowIs(ConfigSearch x, int i, int... want) {
        for (int what = 0; what < 10; what++) {
            due("row(" + i + ", " + what + ")", x.row(i, what), want[what]);
        }
    }

    static void placesAre(ConfigSearch x, int... want) {
        due("count(0)", x.count(0), want.length);
        for (int point = 0; point < want.length; point++) {
            due("coordinate(" + point + ", 3)", x.coordinate(point, 3), want[point]);
        }
    }

    static final int[][] ORDERS = {{0, 1, 2}, {1, 2, 0}, {2, 0, 1}, {1, 0, 2}, {0, 2, 1}, {2, 1, 0}};

    /** By what a SIGN turns in the order of that number. */
    static int turn(int order) {
        return order < 3 ? 1 : -1;
    }

    /** All that the object tells of itself; it changes nothing. */
    static String look(ConfigSearch x) {
        StringBuilder seen = new StringBuilder();
        for (int what = 0; what < 8; what++) {
            seen.append(x.count(what)).append(' ');
        }
        int points = x.count(0);
        for (int line = 0; line < x.count(1); line++) {
            for (int i = 0; i < 5; i++) {
                seen.append(x.line(line, i, false)).append(x.line(line, i, true)).append(' ');
            }
        }
        seen.append("picture ").append(x.check()).append(' ');
        for (int point = 0; point < points; point++) {
            seen.append(x.coordinate(point, 0)).append(x.coordinate(point, 1));
            seen.append(x.coordinate(point, 2)).append(' ').append(x.coordinate(point, 3)).append(' ');
        }
        seen.append(x.meets(0, 1)).append(" rows ").append(x.proof()).append(' ');
        for (int row = 0; row < Math.min(4, x.count(4)); row++) {
            for (int what = 0; what < 10; what++) {
                seen.append(x.row(row, what)).append(' ');
            }
        }
        seen.append("known ");
        for (int c = 2; c < points; c++) {
            for (int b = 1; b < c; b++) {
                for (int a = 0; a < b; a++) {
                    seen.append(x.known(a, b, c)).append(' ');
                }
            }
        }
        seen.append("form ").append(x.canonical(0)).append(' ').append(x.orbit(0)).append(' ').append(x.certificate(1, 2));
        return seen.toString();
    }

    /** What only a change shows: which TRIPLES are BARRED, and what stands on THE TAPE. */
    static String probe(ConfigSearch x) {
        StringBuilder seen = new StringBuilder(look(x)).append(" bars ");
        int points = x.count(0);
        for (int c = 2; c < points; c++) {
            for (int b = 1; b < c; b++) {
                for (int a = 0; a < b; a++) {
                    seen.append(x.bar(a, b, c)).append(' ');
                }
            }
        }
        seen.append("tape ").append(x.read()).append(' ').append(x.count(0)).append(' ').append(x.line(0, 0, true));
        return seen.toString();
    }
}
