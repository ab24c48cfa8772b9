import java.io.IOException;
import java.lang.reflect.Constructor;
import java.lang.reflect.Field;
import java.lang.reflect.Method;
import java.lang.reflect.Modifier;
import java.nio.file.Files;
import java.nio.file.Path;
import java.util.ArrayList;
import java.util.Arrays;
import java.util.List;
import java.util.TreeSet;
import java.util.regex.Matcher;
import java.util.regex.Pattern;

/** The public face, and those rules of LANGUAGE.md that can be seen from the class and its source. */
public final class LanguageTest {
    private static final Path SOURCE = Path.of("src/main/java/TermIdeals.java");
    private static final String FACE = """
        int generate(int ideal, int a, int b)
        int drop(int ideal, int k)
        int clear(int ideal)
        int merge(int ideal)
        int close(int ideal)
        int back()
        int feed(int sign)
        int read()
        int of(int ideal, int k, int what)
        int told(int ideal, int what)
        int in(int ideal, int a, int b, int what)
        int face(int ideal, int i, int what)
        int held(int ideal, int a, int b, int num, int den)
        int reason(int ideal, int a, int b, int num, int den, int i)
        long jump(int ideal, int a, int b, int part)
        long jumps(int ideal, int i, int part)
        int lacks(int ideal, int num, int den)
        int height(int ideal, int what, int a)
        int reduces(int what)
        int see(int i, int num, int den)
        int fits(int ideal, int k, int letter, int what)
        long odds(int ideal, int num, int den, int part)
        long mean(int ideal, int part)
        int event(int what, int n)
        int after(int what)
        int book(int term, int is)
        int looked()
        int judge(int ideal, int tape, int i)
        int image()
        int undo()
        int count(int what)
        int tape(int tape, int sort, int n)
        int item(int tape, int i, long v)
        long peek(int tape, int i)
        int shift(int tape, int i, int other, int j, int n)
        """;

    public static void main(String[] args) throws IOException {
        face();
        members();
        classesInside();
        source(bare(Files.readString(SOURCE)));
        Due.end("LanguageTest");
    }

    private static void holds(String rule, boolean is) {
        Due.is(rule, is ? 1 : 0, 1);
    }

    private static String types(Class<?>[] types) {
        return String.join(", ", Arrays.stream(types).map(Class::getName).toList());
    }

    private static void face() {
        TreeSet<String> want = new TreeSet<>();
        for (String line : FACE.strip().split("\n")) {
            want.add(line.replaceAll(" \\w+([,)])", "$1"));
        }
        TreeSet<String> got = new TreeSet<>();
        for (Method each : TermIdeals.class.getDeclaredMethods()) {
            if (!Modifier.isPrivate(each.getModifiers()) && !each.isSynthetic()) {
                holds("rule 1: public " + each, Modifier.isPublic(each.getModifiers()) && !Modifier.isStatic(each.getModifiers()));
                got.add(each.getReturnType().getName() + " " + each.getName() + "(" + types(each.getParameterTypes()) + ")");
            }
        }
        holds("rule 1: the face is " + got, got.equals(want));
        int modifiers = TermIdeals.class.getModifiers();
        holds("rule 1: public and final", Modifier.isPublic(modifiers) && Modifier.isFinal(modifiers));
        Constructor<?>[] makers = TermIdeals.class.getDeclaredConstructors();
        holds("rule 1: one constructor", makers.length == 1 && Modifier.isPublic(makers[0].getModifiers())
            && makers[0].getParameterCount() == 0);
    }

    private static void members() {
        List<String> publicNames = new ArrayList<>();
        for (Method each : TermIdeals.class.getDeclaredMethods()) {
            if (Modifier.isPublic(each.getModifiers())) {
                publicNames.add(each.getName());
            }
        }
        List<String> constants = List.of("NONE", "BAD", "STATE", "FULL", "NO");
        for (Field each : TermIdeals.class.getDeclaredFields()) {
            boolean constant = constants.contains(each.getName());
            holds("rule 1: " + each, constant ? Modifier.isPublic(each.getModifiers()) : Modifier.isPrivate(each.getModifiers()));
        }
        for (Class<?> each : classes()) {
            for (Method method : each.getDeclaredMethods()) {
                boolean isFace = each == TermIdeals.class && Modifier.isPublic(method.getModifiers());
                holds("rule 1: name of " + method, isFace || !publicNames.contains(method.getName()));
                holds("rule 11: parameters of " + method, method.getParameterCount() <= 7);
            }
        }
    }

    private static List<Class<?>> classes() {
        List<Class<?>> all = new ArrayList<>(List.of(TermIdeals.class));
        all.addAll(Arrays.asList(TermIdeals.class.getDeclaredClasses()));
        return all;
    }

    private static void classesInside() {
        holds("rule 11: twelve classes", classes().size() <= 12);
        for (Class<?> each : classes()) {
            int fields = 0;
            for (Field field : each.getDeclaredFields()) {
                boolean isStatic = Modifier.isStatic(field.getModifiers());
                fields += isStatic ? 0 : 1;
                holds("rule 5: " + field, !isStatic || Modifier.isFinal(field.getModifiers()));
            }
            holds("rule 11: fields of " + each, fields <= 20);
            holds("rule 2: " + each, each == TermIdeals.class || Modifier.isStatic(each.getModifiers()));
            holds("rule 2: no class inside " + each, each == TermIdeals.class || each.getDeclaredClasses().length == 0);
        }
    }

    /** Without comments, and with what stands in quotes taken out. */
    private static String bare(String source) {
        return source.replaceAll("(?s)/\\*.*?\\*/", "").replaceAll("//[^\n]*", "").replaceAll("'.'", "0").replaceAll("\"[^\"]*\"", "0");
    }

    private static void source(String source) {
        String[] banned = {
            "\\bthrow\\b", "\\btry\\b", "\\bcatch\\b", "\\bsynchronized\\b", "\\bassert\\b", "->", "::", "\\bimport\\b",
            "\\bpackage\\b", "\\bstatic\\s*\\{", "Exact\\b", "\\bequals\\b", "\\bhashCode\\b", "\\btoString\\b", "\\bnative\\b",
            "\\bvolatile\\b", "\\bprotected\\b", "\\bdouble\\b", "\\bfloat\\b", "\\bwhile\\s*\\(\\s*true", "\\bfor\\s*\\(\\s*;"
        };
        for (String each : banned) {
            holds("banned " + each, !Pattern.compile(each).matcher(source).find());
        }
        Matcher library = Pattern.compile("\\b(System|Math|Integer|Long|Arrays)\\.(\\w+)").matcher(source);
        List<String> known = List.of("System.arraycopy", "Math.min", "Math.max", "Long.MIN_VALUE");
        while (library.find()) {
            holds("rule 4: " + library.group(), known.contains(library.group()));
        }
        methodLengths(source);
    }

    private static void methodLengths(String source) {
        String[] lines = source.split("\n");
        int start = -1;
        for (int i = 0; i < lines.length; i++) {
            boolean opens = lines[i].matches("( {4}| {8})\\w.*\\) \\{") && !lines[i].matches(" +(if|for|switch|while) .*");
            start = opens ? i : start;
            if (start >= 0 && lines[i].matches("( {4}| {8})\\}")) {
                holds("rule 11: length of " + lines[start].strip(), i - start + 1 <= 60);
                start = -1;
            }
        }
    }
}
