import java.io.IOException;
import java.lang.reflect.Executable;
import java.lang.reflect.Field;
import java.lang.reflect.Modifier;
import java.nio.charset.StandardCharsets;
import java.nio.file.Files;
import java.nio.file.Path;
import java.util.ArrayList;
import java.util.Arrays;
import java.util.List;
import java.util.Set;
import java.util.TreeSet;
import java.util.regex.Matcher;
import java.util.regex.Pattern;

/**
 * The rules of LANGUAGE.md that can be read off the file or the classes: each check stands under the
 * number of its rule. It is run from the project's own folder, as .ci/run does.
 */
public final class LanguageTest {
    private static final Path FILE = Path.of("src", "main", "java", "CodedColumn.java");
    private static final Set<String> THROWN = Set.of(
        "IllegalArgumentException", "IllegalStateException", "IndexOutOfBoundsException");
    private static final Set<String> LIBRARY = Set.of("Math.min", "Math.max", "Integer.bitCount");
    private static final String[] LEFT_OUT = {
        "package", "import", "finally", "synchronized", "assert", "try", "catch", "record", "volatile", "transient",
        "native", "strictfp", "equals", "hashCode", "toString", "protected",
    };

    private static final Expect expect = new Expect();

    public static void main(String[] args) throws IOException {
        String file = Files.readString(FILE, StandardCharsets.ISO_8859_1);
        String code = withoutComments(file);
        String bare = code.replaceAll("\"[^\"\n]*\"", "\"\"");
        wordsLeftOut(bare);
        exceptions(code);
        library(bare);
        lengths(bare);
        for (Class<?> type : classes()) {
            fields(type);
            parameters(type);
        }
        expect.is(1, "rule 11: at most twelve classes", () -> classes().size() <= 12 ? 1 : 0);
        expect.end();
    }

    private static String withoutComments(String file) {
        return file.replaceAll("(?s)/\\*.*?\\*/", "").replaceAll("(?m)//.*$", "");
    }

    private static List<Class<?>> classes() {
        List<Class<?>> classes = new ArrayList<>(Arrays.asList(CodedColumn.class.getDeclaredClasses()));
        classes.add(CodedColumn.class);
        return classes;
    }

    private static TreeSet<String> found(String text, String pattern) {
        TreeSet<String> found = new TreeSet<>();
        Matcher matcher = Pattern.compile(pattern).matcher(text);
        while (matcher.find()) {
            found.add(matcher.group(1));
        }
        return found;
    }

    /** Rules 1, 2, 6, 10: what the file does not use at all, more than the rules ask. */
    private static void wordsLeftOut(String bare) {
        for (String word : LEFT_OUT) {
            expect.tell("the word " + word, "[]", found(bare, "\\b(" + word + ")\\b").toString());
        }
        expect.tell("lambdas and method references", "[]", found(bare, "(->|::)").toString());
        expect.tell("signs beyond 127", "[]", found(bare, "([^\\x01-\\x7f])").toString());
    }

    /** Rules 6 and 10: exceptions with a written text; no other text is there, and so none is joined. */
    private static void exceptions(String code) {
        String rest = code.replaceAll("throw new \\w+\\(\"[^\"\n]*\"\\);", "");
        expect.tell("throws of another form", "[]", found(rest, "\\b(throw)\\b").toString());
        expect.tell("texts elsewhere", "[]", found(rest, "(\")").toString());
        TreeSet<String> others = found(code, "throw new (\\w+)");
        others.removeAll(THROWN);
        expect.tell("other exceptions", "[]", others.toString());
    }

    /** Rule 4: of the library, nothing but two functions of Math and one of Integer. */
    private static void library(String bare) {
        TreeSet<String> others = found(bare, "\\b([A-Z][a-z]\\w*\\.\\w+)");
        others.removeAll(LIBRARY);
        expect.tell("other names of the library", "[]", others.toString());
    }

    /** Rule 11: "Methods stay short (some sixty lines)". A method's head is indented by four or by eight. */
    private static void lengths(String bare) {
        Pattern heads = Pattern.compile("^( {4}| {8})(?!return|throw|new|else)\\w[\\w\\[\\] ]* \\w+\\([^;]*$");
        String[] lines = bare.split("\n");
        int methods = 0;
        for (int from = 0; from < lines.length; from++) {
            Matcher head = heads.matcher(lines[from]);
            if (head.matches()) {
                methods++;
                int length = lengthFrom(lines, from, head.group(1) + "}");
                expect.is(1, "rule 11: " + lines[from].trim() + " has " + length + " lines",
                    () -> length <= 60 ? 1 : 0);
            }
        }
        // The public constructor's head has a word ahead of its name, as a method's has.
        int found = methods - 1;
        expect.is(methodsOf(classes()), "the methods whose heads were found", () -> found);
    }

    private static int methodsOf(List<Class<?>> classes) {
        int methods = 0;
        for (Class<?> type : classes) {
            for (Executable method : type.getDeclaredMethods()) {
                methods += method.isSynthetic() ? 0 : 1;
            }
        }
        return methods;
    }

    private static int lengthFrom(String[] lines, int from, String end) {
        int to = from;
        while (to < lines.length && !lines[to].equals(end)) {
            to++;
        }
        return to - from + 1;
    }

    /** Rules 3, 5 and 11: what the fields are, and how many a class has. */
    private static void fields(Class<?> type) {
        int own = 0;
        for (Field field : type.getDeclaredFields()) {
            boolean isStatic = Modifier.isStatic(field.getModifiers());
            own += isStatic ? 0 : 1;
            boolean fits = isStatic ? field.getType() == int.class : isOfTheRules(field.getType());
            expect.is(1, "rules 3 and 5: " + field, () -> fits ? 1 : 0);
        }
        int fields = own;
        expect.is(1, "rule 11: the fields of " + type, () -> fields <= 20 ? 1 : 0);
    }

    private static boolean isOfTheRules(Class<?> type) {
        Class<?> part = type.isArray() ? type.getComponentType() : type;
        return part.isPrimitive() || classes().contains(part);
    }

    /** Rules 2, 3 and 11: what methods and constructors are given. */
    private static void parameters(Class<?> type) {
        List<Executable> all = new ArrayList<>(Arrays.asList(type.getDeclaredMethods()));
        all.addAll(Arrays.asList(type.getDeclaredConstructors()));
        for (Executable made : all) {
            Class<?>[] given = made.getParameterTypes();
            expect.is(1, "rule 11: " + made + " takes at most seven", () -> given.length <= 7 ? 1 : 0);
            for (Class<?> part : given) {
                expect.is(1, "rule 3: " + made + " takes " + part, () -> isOfTheRules(part) ? 1 : 0);
            }
        }
        expect.is(0, "rule 2: classes inside " + type.getSimpleName(),
            () -> type == CodedColumn.class ? 0 : type.getDeclaredClasses().length);
    }
}
