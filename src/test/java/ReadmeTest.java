import java.io.IOException;
import java.lang.reflect.InvocationTargetException;
import java.lang.reflect.Method;
import java.nio.file.Files;
import java.nio.file.Path;
import java.util.ArrayList;
import java.util.List;
import java.util.TreeSet;
import java.util.regex.Matcher;
import java.util.regex.Pattern;

/** The example in README.md answers what it says, and README.md names each call and each test. */
public final class ReadmeTest {
    private static final Pattern CALL = Pattern.compile("column\\.(\\w+)\\((.*)\\); +// (-?\\d+)\\b.*");

    private static final Expect expect = new Expect();

    public static void main(String[] args) throws IOException, ReflectiveOperationException {
        String page = Files.readString(Path.of("README.md"));
        example(page);
        namesEachCall(page);
        namesEachTest(page);
        expect.end();
    }

    private static void example(String page) throws ReflectiveOperationException {
        CodedColumn column = new CodedColumn();
        int lines = 0;
        for (String line : page.split("\n")) {
            Matcher call = CALL.matcher(line);
            if (line.startsWith("column.") && call.matches()) {
                lines++;
                String got = String.valueOf(answer(column, call.group(1), call.group(2)));
                expect.tell(line, call.group(3), got);
            } else if (line.startsWith("column.")) {
                expect.tell(line, "a call and its answer", "something else");
            }
        }
        int found = lines;
        expect.is(1, found + " calls in the example", () -> found > 0 ? 1 : 0);
    }

    private static Object answer(CodedColumn column, String name, String written)
            throws IllegalAccessException, InvocationTargetException {
        String[] arguments = written.isEmpty() ? new String[0] : written.split(", ");
        for (Method method : CodedColumn.class.getMethods()) {
            if (method.getName().equals(name)) {
                return method.invoke(column, read(method.getParameterTypes(), arguments));
            }
        }
        return "no such call";
    }

    private static Object[] read(Class<?>[] types, String[] arguments) {
        List<Object> read = new ArrayList<>();
        for (int i = 0; i < types.length; i++) {
            if (types[i] == boolean.class) {
                read.add(Boolean.valueOf(arguments[i]));
            } else if (types[i] == long.class) {
                read.add(Long.valueOf(arguments[i].replace("L", "")));
            } else {
                read.add(Integer.valueOf(arguments[i]));
            }
        }
        return read.toArray();
    }

    private static void namesEachCall(String page) {
        TreeSet<String> missing = new TreeSet<>();
        for (Method method : CodedColumn.class.getMethods()) {
            if (method.getDeclaringClass() == CodedColumn.class && !page.contains("`" + method.getName() + "`")) {
                missing.add(method.getName());
            }
        }
        expect.tell("the calls that README.md does not name", "[]", missing.toString());
    }

    private static void namesEachTest(String page) throws IOException {
        TreeSet<String> missing = new TreeSet<>();
        try (var files = Files.list(Path.of("src", "test", "java"))) {
            for (Path file : files.toList()) {
                String name = file.getFileName().toString().replace(".java", "");
                if (!page.contains("| " + name + " |") && !page.contains("`" + name + "`")) {
                    missing.add(name);
                }
            }
        }
        expect.tell("the tests that README.md does not name", "[]", missing.toString());
    }
}
