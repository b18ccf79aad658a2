import java.lang.reflect.InvocationTargetException;
import java.lang.reflect.Method;
import java.nio.file.Files;
import java.nio.file.Path;
import java.util.Set;
import java.util.TreeSet;
import java.util.regex.Matcher;
import java.util.regex.Pattern;

/** README.md tells no answer that the class does not give, and leaves no call out. */
public final class ReadmeTest {
    private static final Pattern EXAMPLE = Pattern.compile("```java\n(.*?)```", Pattern.DOTALL);
    private static final Pattern TEXT = Pattern.compile("\"([a-j ]+)\"\\.toCharArray\\(\\)");
    private static final Pattern ROW = Pattern.compile("search\\.(\\w+)\\((.*)\\); +// (-?\\d+)(?:: .*)?");
    private static int wrong = 0;

    public static void main(String[] args) throws Exception {
        String readme = Files.readString(Path.of("README.md"));
        Matcher example = EXAMPLE.matcher(readme);
        expect("there is an example", example.find());
        if (wrong == 0) {
            carryOut(example.group(1));
        }
        expect("it says how to run the tests", readme.contains("\n    .ci/run\n"));
        System.out.println(wrong == 0 ? "README.md is as the class is" : wrong + " faults of README.md");
        if (wrong != 0) {
            System.exit(1);
        }
    }

    private static void carryOut(String example) throws IllegalAccessException {
        ConfigSearch search = new ConfigSearch();
        Matcher text = TEXT.matcher(example);
        expect("the example has a text", text.find());
        for (char c : text.group(1).toCharArray()) {
            search.sign(c);
        }
        Set<String> left = new TreeSet<>();
        for (Method method : ConfigSearch.class.getMethods()) {
            if (method.getDeclaringClass() == ConfigSearch.class) {
                left.add(method.getName());
            }
        }
        for (String row : example.substring(text.end()).split("\n")) {
            Matcher call = ROW.matcher(row);
            if (call.matches()) {
                left.remove(call.group(1));
                String got = answer(search, call.group(1), call.group(2));
                expect(row + " [answered " + got + "]", got.equals(call.group(3)));
            } else {
                // a row that looks like a call but tells no answer would go untested
                expect(row, !row.contains("search.") || row.equals("    search.sign(c);"));
            }
        }
        expect("the example shows each call, but not " + left, left.isEmpty());
    }

    private static String answer(ConfigSearch search, String name, String written) throws IllegalAccessException {
        String[] words = written.isEmpty() ? new String[0] : written.split(", ");
        for (Method method : ConfigSearch.class.getMethods()) {
            if (method.getName().equals(name) && method.getParameterCount() == words.length) {
                Object[] values = new Object[words.length];
                for (int i = 0; i < words.length; i++) {
                    values[i] = method.getParameterTypes()[i] == boolean.class
                            ? (Object) Boolean.valueOf(words[i]) : (Object) number(words[i]);
                }
                try {
                    return String.valueOf(method.invoke(search, values));
                } catch (InvocationTargetException e) {
                    return "throws " + e.getCause();
                }
            }
        }
        return "no such call";
    }

    private static Integer number(String word) {
        return word.startsWith("'") ? (int) word.charAt(1) : Integer.parseInt(word);
    }

    private static void expect(String what, boolean fine) {
        if (!fine) {
            wrong++;
            System.out.println("not so: " + what);
        }
    }
}
