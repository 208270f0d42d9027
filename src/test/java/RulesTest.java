import java.io.IOException;
import java.io.PrintWriter;
import java.io.StringWriter;
import java.lang.reflect.Constructor;
import java.lang.reflect.Field;
import java.lang.reflect.Method;
import java.lang.reflect.Modifier;
import java.nio.file.Files;
import java.nio.file.Path;
import java.util.HashMap;
import java.util.List;
import java.util.Map;
import java.util.Set;
import java.util.TreeSet;
import java.util.regex.Matcher;
import java.util.regex.Pattern;
import java.util.spi.ToolProvider;

/** The face of the class, and what ../shared/LANGUAGE.md asks of its source, as far as it can be seen from outside. */
public final class RulesTest {
    private static final Path SOURCE = Path.of("src/main/java/CheeseTwins.java");
    private static final Path DOCUMENT = Path.of("../shared/DOC.md");
    private static final int DEEPEST = 8;
    // The head of a method in what javap writes.
    private static final Pattern HEAD = Pattern.compile("^  (?:\\S.* )?([\\w$]+)\\(.*\\).*;$");
    private static final Set<String> FACE = Set.of("int lend(int,int)", "int ask(int,int)", "int give(int)", "int giveAll(int)",
        "int resize(int,int)", "int way(int)", "int forget(int)", "int loanOf(int,int)", "int nameOf(int,int)",
        "int waitingOf(int,int)", "int pieceOf(int,int)", "int free(int,boolean)", "int greatest()", "int would(int)",
        "int cuts(int)", "int fits(int)", "int hole(int)", "int inTheWay(int)", "int ranked(int)", "int line()", "int map()",
        "char character(int)", "int append(char)", "int run()", "int errorPosition()", "int refusal(boolean)",
        "int account(int)", "boolean isWell()", "double meanWaste()", "float lentShare()", "int undo()", "int save()",
        "int restore()");

    private RulesTest() {
    }

    public static void main(String[] args) throws IOException {
        face();
        declarations();
        source();
        depth();
        made(CheeseTwins.class);
        for (Class<?> inner : CheeseTwins.class.getDeclaredClasses()) {
            made(inner);
        }
        Check.end();
    }

    private static void face() {
        Set<String> open = new TreeSet<>();
        Set<String> openNames = new TreeSet<>();
        Set<String> hiddenNames = new TreeSet<>();
        for (Method method : CheeseTwins.class.getDeclaredMethods()) {
            if (Modifier.isPrivate(method.getModifiers())) {
                hiddenNames.add(method.getName());
            } else {
                open.add(signatureOf(method));
                openNames.add(method.getName());
            }
        }
        Check.same("the methods", open, new TreeSet<>(FACE));
        for (Class<?> inner : CheeseTwins.class.getDeclaredClasses()) {
            for (Method method : inner.getDeclaredMethods()) {
                hiddenNames.add(method.getName());
            }
            Check.same(inner + " is static", Modifier.isStatic(inner.getModifiers()), true);
        }
        hiddenNames.retainAll(openNames);
        Check.same("private methods with the name of a public one", hiddenNames, Set.of());
        for (Field field : CheeseTwins.class.getDeclaredFields()) {
            Check.same(field + " is private", Modifier.isPrivate(field.getModifiers()), true);
        }
        Constructor<?>[] constructors = CheeseTwins.class.getDeclaredConstructors();
        Check.same("constructors", constructors.length, 1);
        Check.same("the class", CheeseTwins.class.getModifiers(), Modifier.PUBLIC | Modifier.FINAL);
    }

    private static String signatureOf(Method method) {
        StringBuilder types = new StringBuilder();
        for (Class<?> type : method.getParameterTypes()) {
            types.append(types.length() > 0 ? "," : "").append(type.getSimpleName());
        }
        return method.getReturnType().getSimpleName() + " " + method.getName() + "(" + types + ")";
    }

    /** The face as the document writes it, with the names of the parameters and all that is thrown, and nothing else. */
    private static void declarations() throws IOException {
        String source = Files.readString(SOURCE).replaceAll("\\s+", " ");
        Matcher declaration = Pattern.compile("(?m)^    (public .*);$").matcher(Files.readString(DOCUMENT));
        int count = 0;
        while (declaration.find()) {
            Check.same("the source has " + declaration.group(1), source.contains(" " + declaration.group(1) + " {"), true);
            count++;
        }
        Check.same("a constructor and the methods", count, 1 + FACE.size());
        Check.same("what is public, with the class", source.split("\\bpublic ", -1).length - 1, 1 + count);
    }

    private static void source() throws IOException {
        String code = Files.readString(SOURCE).replaceAll("(?s)/\\*.*?\\*/", "").replaceAll("//[^\n]*", "")
            .replaceAll("\"[^\"\n]*\"", "\"\"");
        List<String> forbidden = List.of("\\btry\\b", "\\bcatch\\b", "\\bfinally\\b", "\\bsynchronized\\b", "\\bassert\\b",
            "->", "::", "\\bstatic \\{", "\\bpackage\\b", "\\bprotected\\b", "Exact\\b", "\\binstanceof\\b",
            "import (?!java\\.util\\.NoSuchElementException;)", "\" *\\+", "\\+ *\"", "\\blong\\b", "\\bObject\\b");
        for (String pattern : forbidden) {
            Check.same("the source has " + pattern, Pattern.compile(pattern).matcher(code).find(), false);
        }
        Check.same("signs of the source", Files.readString(SOURCE).chars().allMatch(c -> c > 0 && c < 128), true);
    }

    /** No chain of calls inside the class is deeper than eight methods. */
    private static void depth() {
        Map<String, Set<String>> calls = callsOfClasses();
        Check.same("calls are found", calls.size() > 100, true);
        Map<String, Integer> depths = new HashMap<>();
        for (String method : calls.keySet()) {
            int depth = depthOf(method, calls, depths, 0);
            Check.same("calls of " + method + " go at most eight deep: " + depth, depth <= DEEPEST, true);
        }
    }

    private static int depthOf(String method, Map<String, Set<String>> calls, Map<String, Integer> depths, int level) {
        if (level > 50) {
            return level;
        }
        Integer known = depths.get(method);
        if (known != null) {
            return known;
        }
        int deepest = 0;
        for (String called : calls.getOrDefault(method, Set.of())) {
            deepest = Math.max(deepest, depthOf(called, calls, depths, level + 1));
        }
        depths.put(method, deepest + 1);
        return deepest + 1;
    }

    /** Which methods of the class and its inner classes call which, as javap tells it. */
    private static Map<String, Set<String>> callsOfClasses() {
        Map<String, Set<String>> calls = new HashMap<>();
        collectCalls(CheeseTwins.class, calls);
        for (Class<?> inner : CheeseTwins.class.getDeclaredClasses()) {
            collectCalls(inner, calls);
        }
        return calls;
    }

    /** All rows are made in constructors: a call makes nothing but the exception that it throws. */
    private static void made(Class<?> type) {
        Pattern making = Pattern.compile(": (?:(?:a|multia)?newarray|invokedynamic|new +#\\d+ +// class (?!java/.*Exception$))");
        String method = "";
        for (String row : codeOf(type).split("\n")) {
            Matcher heading = HEAD.matcher(row);
            if (heading.find()) {
                method = heading.group(1);
            } else if (!method.equals(type.getName())) {
                Check.same(type.getName() + "." + method + " makes:" + row, making.matcher(row).find(), false);
            }
        }
    }

    private static String codeOf(Class<?> type) {
        StringWriter text = new StringWriter();
        PrintWriter out = new PrintWriter(text);
        String path = System.getProperty("java.class.path") + "/" + type.getName() + ".class";
        ToolProvider.findFirst("javap").orElseThrow().run(out, out, "-c", "-p", path);
        return text.toString();
    }

    private static void collectCalls(Class<?> type, Map<String, Set<String>> calls) {
        Pattern call = Pattern.compile("// Method (?:(CheeseTwins[\\w$]*)\\.)?(\\w+|\"<init>\"):");
        Set<String> called = new TreeSet<>();
        for (String row : codeOf(type).split("\n")) {
            Matcher heading = HEAD.matcher(row);
            Matcher calling = call.matcher(row);
            if (heading.find()) {
                String name = heading.group(1).equals(type.getName()) ? "\"<init>\"" : heading.group(1);
                called = calls.computeIfAbsent(type.getName() + "." + name, key -> new TreeSet<>());
            } else if (calling.find()) {
                called.add((calling.group(1) == null ? type.getName() : calling.group(1)) + "." + calling.group(2));
            }
        }
    }
}
