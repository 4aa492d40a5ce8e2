import java.lang.reflect.InvocationTargetException;
import java.lang.reflect.Method;
import java.nio.file.Files;
import java.nio.file.Path;
import java.util.Arrays;
import java.util.List;
import java.util.regex.Matcher;
import java.util.regex.Pattern;

/** Every call that README.md shows answers what stands behind it there. */
public final class ReadmeTest {
    private static final Pattern PUT = Pattern.compile("put\\(x, \"([^\"]*)\"\\);");
    private static final Pattern CALL = Pattern.compile("x\\.(\\w+)\\(([^)]*)\\);\\s*// (-?\\w+)\\b.*");

    private ReadmeTest() {
    }

    public static void main(String[] args) throws Exception {
        String page = Files.readString(Path.of("README.md"));
        List<String> blocks = Pattern.compile("```java\\n(.*?)```", Pattern.DOTALL).matcher(page)
            .results().map(m -> m.group(1)).toList();
        Check.due("pieces of Java in README.md", blocks.size(), 2);
        String helper = plain(blocks.get(0));
        Check.due("the helper is the tests' own", plain(Files.readString(Path.of("src/test/java/Check.java")))
            .contains(helper), true);
        walk(blocks.get(1).split("\n"));
        Check.due("calls were asked", Check.asked > 50, true);
        Check.finish("ReadmeTest");
    }

    private static String plain(String text) {
        return text.replaceAll("\\s+", " ").trim();
    }

    private static void walk(String[] lines) throws Exception {
        Check.due("it begins with a new object", lines[0].equals("CartTurns x = new CartTurns();"), true);
        CartTurns x = new CartTurns();
        for (String line : Arrays.copyOfRange(lines, 1, lines.length)) {
            Matcher put = PUT.matcher(line);
            Matcher call = CALL.matcher(line);
            if (put.matches()) {
                Check.put(x, put.group(1));
            } else if (call.matches()) {
                String got = answer(x, call.group(1), call.group(2));
                String want = call.group(3).equals("NONE") ? "-1" : call.group(3);
                Check.due(line + " answered " + got, got.equals(want), true);
            } else {
                Check.due("a line that can be read: " + line, line.isEmpty(), true);
            }
        }
    }

    private static String answer(CartTurns x, String name, String arguments) throws Exception {
        Object[] numbers = arguments.isEmpty() ? new Object[0]
            : Arrays.stream(arguments.split(", ")).map(s -> s.equals("NONE") ? CartTurns.NONE : Integer.decode(s)).toArray();
        Class<?>[] types = new Class<?>[numbers.length];
        Arrays.fill(types, int.class);
        Method method = CartTurns.class.getMethod(name, types);
        try {
            return String.valueOf(method.invoke(x, numbers));
        } catch (InvocationTargetException e) {
            return e.getCause().getClass().getSimpleName();
        }
    }
}
