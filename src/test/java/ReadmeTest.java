import java.lang.reflect.Method;
import java.nio.file.Files;
import java.nio.file.Path;
import java.util.HashMap;
import java.util.HashSet;
import java.util.Map;
import java.util.Set;
import java.util.regex.Matcher;
import java.util.regex.Pattern;

/** The rows that README.md shows under "Use" are called as they stand there, on one object. */
public final class ReadmeTest {
    private static final Pattern CALL = Pattern.compile("x\\.(\\w+)\\(([^)]*)\\);");
    private static final Pattern ANSWER = Pattern.compile("\\);\\s*// (-?\\d+)\\b");

    private static final Map<String, Method> CALLS = new HashMap<>();

    public static void main(String[] args) throws Exception {
        for (Method call : TermIdeals.class.getDeclaredMethods()) {
            CALLS.put(call.getName(), call);
        }
        TermIdeals x = new TermIdeals();
        Set<String> called = new HashSet<>();
        for (String row : shownRows()) {
            callRow(x, row, called);
        }
        for (String name : publicCalls()) {
            Due.is("README.md shows " + name, called.contains(name) ? 1 : 0, 1);
        }
        Due.end("ReadmeTest");
    }

    private static String[] shownRows() throws Exception {
        String page = Files.readString(Path.of("README.md"));
        int start = page.indexOf("```java");
        int end = start < 0 ? -1 : page.indexOf("```", start + 3);
        return end < 0 ? new String[0] : page.substring(start, end).split("\n");
    }

    private static Set<String> publicCalls() {
        Set<String> names = new HashSet<>();
        for (Method call : TermIdeals.class.getMethods()) {
            if (call.getDeclaringClass() == TermIdeals.class) {
                names.add(call.getName());
            }
        }
        return names;
    }

    private static void callRow(TermIdeals x, String row, Set<String> called) throws Exception {
        Matcher call = CALL.matcher(row);
        long got = 0;
        while (call.find()) {
            called.add(call.group(1));
            got = answer(x, call.group(1), call.group(2));
        }
        Matcher answer = ANSWER.matcher(row);
        if (answer.find()) {
            Due.is("README.md: " + row.trim(), got, Long.parseLong(answer.group(1)));
        }
    }

    private static long answer(TermIdeals x, String name, String told) throws Exception {
        Method call = CALLS.get(name);
        Class<?>[] types = call.getParameterTypes();
        String[] texts = told.isEmpty() ? new String[0] : told.split(", ");
        Object[] values = new Object[texts.length];
        for (int i = 0; i < texts.length; i++) {
            long value = texts[i].charAt(0) == '\'' ? texts[i].charAt(1) : Long.parseLong(texts[i]);
            values[i] = types[i] == long.class ? (Object) value : (Object) (int) value;
        }
        return ((Number) call.invoke(x, values)).longValue();
    }
}
