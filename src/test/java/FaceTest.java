import java.lang.reflect.Constructor;
import java.lang.reflect.Field;
import java.lang.reflect.Member;
import java.lang.reflect.Method;
import java.lang.reflect.Modifier;
import java.nio.file.Files;
import java.nio.file.Path;
import java.util.Arrays;
import java.util.Set;
import java.util.TreeSet;

/** The class has the document's face and no more, and no argument makes a call throw by itself. */
public final class FaceTest {
    private static final String[] FACE = {
        "sign(int)", "read()", "count(int)", "line(int,int,boolean)", "bar(int,int,int)", "orient(int,int,int,int)",
        "realise(int,int)", "coordinate(int,int)", "check()", "meet(int,int)", "meets(int,int)", "pivot(int,int,int)",
        "deduce()", "row(int,int)", "plant(int,int)", "proof()", "known(int,int,int)", "certificate(int,int)",
        "kinds(int,int)", "canonical(int)", "orbit(int)"};
    private static final int[] WILD = {Integer.MIN_VALUE, -1000, -1, 0, 1, 2, 7, 12, 60, 1000, Integer.MAX_VALUE};
    private static final String[] TEXTS = {"", "abc", "abc ade", "abc ade afg bdf beg cdg cef", "abcde afghi bfj"};
    private static int wrong = 0;

    public static void main(String[] args) throws Exception {
        Class<?> type = ConfigSearch.class;
        expect("public final class", Modifier.isPublic(type.getModifiers()) && Modifier.isFinal(type.getModifiers()));
        expect("constructor", type.getDeclaredConstructors().length == 1 && type.getConstructors().length == 1
                && type.getConstructors()[0].getParameterCount() == 0);
        methods(type);
        fields(type);
        names(type);
        source();
        for (String text : TEXTS) {
            wildCalls(text);
        }
        System.out.println(wrong == 0 ? "the face is as due" : wrong + " faults of the face");
        if (wrong != 0) {
            System.exit(1);
        }
    }

    private static void expect(String what, boolean fine) {
        if (!fine) {
            wrong++;
            System.out.println("not so: " + what);
        }
    }

    private static boolean hidden(Member member) {
        return Modifier.isPrivate(member.getModifiers()) || member.isSynthetic();
    }

    private static void methods(Class<?> type) {
        Set<String> seen = new TreeSet<>();
        for (Method method : type.getDeclaredMethods()) {
            if (hidden(method)) {
                continue;
            }
            String name = method.toString();
            seen.add(name.substring(name.indexOf("ConfigSearch.") + 13).replace(" throws java.lang.ArithmeticException", ""));
            expect(name + " is public and answers int", Modifier.isPublic(method.getModifiers())
                    && !Modifier.isStatic(method.getModifiers()) && method.getReturnType() == int.class);
            boolean throwing = method.getName().equals("meet") || method.getName().equals("pivot");
            expect(name + " throws as told", method.getExceptionTypes().length == (throwing ? 1 : 0));
        }
        expect("methods " + seen, seen.equals(new TreeSet<>(Arrays.asList(FACE))));
    }

    private static void fields(Class<?> type) throws Exception {
        Set<String> seen = new TreeSet<>();
        for (Field field : type.getDeclaredFields()) {
            if (!hidden(field)) {
                seen.add(field.getName() + " " + field.getInt(null));
            }
        }
        expect("constants " + seen, seen.equals(new TreeSet<>(Arrays.asList("BAD -9", "STATE -2", "FULL -3", "NONE -4"))));
        for (Class<?> inside : type.getDeclaredClasses()) {
            expect(inside + " is static", Modifier.isStatic(inside.getModifiers()) && !Modifier.isPublic(inside.getModifiers()));
            for (Constructor<?> made : inside.getDeclaredConstructors()) {
                expect(inside + " throws nothing when made", made.getExceptionTypes().length == 0);
            }
        }
    }

    /** No method of the classes inside, and no hidden one, bears the name of one of the face. */
    private static void names(Class<?> type) {
        Set<String> face = new TreeSet<>();
        for (String method : FACE) {
            face.add(method.substring(0, method.indexOf('(')));
        }
        for (Method method : type.getDeclaredMethods()) {
            expect("another name than " + method, !hidden(method) || !face.contains(method.getName()));
        }
        for (Class<?> inside : type.getDeclaredClasses()) {
            for (Method method : inside.getDeclaredMethods()) {
                expect("another name than " + method, !face.contains(method.getName()));
            }
        }
    }

    /** Words that LANGUAGE.md rules out; a look at the text is enough for these. */
    private static void source() throws Exception {
        String text = Files.readString(Path.of("src/main/java/ConfigSearch.java"));
        for (String word : new String[] {"->", "::", "package ", "synchronized", "finally", "assert ", "Exact(", "try {",
            "catch", "System.out", "System.nano", "Random", "protected", "hashCode", "toString", "getMessage"}) {
            expect("no '" + word + "' in the source", !text.contains(word));
        }
        for (String line : text.split("\n")) {
            expect("only Arrays is imported", !line.startsWith("import") || line.equals("import java.util.Arrays;"));
        }
    }

    private static ConfigSearch loaded(String text, int field) {
        ConfigSearch x = new ConfigSearch();
        for (char c : text.toCharArray()) {
            x.sign(c);
        }
        x.read();
        x.bar(0, 1, 3);
        x.orient(0, 2, 4, 1);
        x.orient(0, 1, 4, 1);
        x.orient(0, 1, 3, 1);
        x.realise(field, 20000);
        x.deduce();
        return x;
    }

    private static void wildCalls(String text) {
        for (int field : new int[] {0, 3, 13}) {
            for (int a : WILD) {
                for (int b : WILD) {
                    // anew each time, as an object is used for 512 calls at most
                    ConfigSearch x = loaded(text, field);
                    x.sign(a);
                    x.count(a);
                    x.canonical(a);
                    x.orbit(a);
                    x.line(a, b, true);
                    x.coordinate(a, b);
                    x.meets(a, b);
                    throwing(x, a, b, 3);
                    x.row(a, b);
                    x.certificate(a, b);
                    x.kinds(a, b);
                    x.plant(a, b);
                    x.bar(a, b, 3);
                    x.known(a, 4, b);
                    x.orient(2, a, b, 1);
                    x.proof();
                    x.check();
                    x.realise(a, 20);
                    x.realise(2, a);
                    x.deduce();
                    x.read();
                }
            }
        }
    }

    /** Only a throw of the class itself may be at the exception's top. */
    private static void throwing(ConfigSearch x, int a, int b, int p) {
        try {
            x.meet(a, b);
        } catch (ArithmeticException e) {
            expect("meet itself throws", e.getStackTrace()[0].getMethodName().equals("meet"));
        }
        try {
            x.pivot(p, a, b);
        } catch (ArithmeticException e) {
            expect("pivot itself throws", e.getStackTrace()[0].getMethodName().equals("pivot"));
        }
    }
}
