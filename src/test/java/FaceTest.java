import java.lang.reflect.Constructor;
import java.lang.reflect.Field;
import java.lang.reflect.Method;
import java.lang.reflect.Modifier;
import java.util.ArrayList;
import java.util.Arrays;
import java.util.List;
import java.util.TreeSet;

/** The public face of the document, and what LANGUAGE.md lets stand beside it. */
public final class FaceTest {
    private static final String[] METHODS = {
        "int append(int) IllegalArgumentException IllegalStateException",
        "int clearText()",
        "int errorPosition()",
        "int about(int) IllegalArgumentException",
        "int at(int) IndexOutOfBoundsException",
        "int page(int,int) IndexOutOfBoundsException IllegalArgumentException",
        "int bit(int,int) IndexOutOfBoundsException IllegalArgumentException",
        "int size(int,int) IndexOutOfBoundsException IllegalArgumentException",
        "int scan(int,boolean) IllegalArgumentException",
        "int sum(int,int) IndexOutOfBoundsException",
        "int add(int) IllegalArgumentException IllegalStateException",
        "int put(int,int) IndexOutOfBoundsException IllegalArgumentException",
        "int remove(int) IndexOutOfBoundsException",
        "int cut(int,int) IndexOutOfBoundsException IllegalArgumentException IllegalStateException",
        "int merge(int) IndexOutOfBoundsException IllegalStateException",
        "int compact()",
        "int pin(int,int) IndexOutOfBoundsException IllegalArgumentException",
        "int setLimit(int) IllegalArgumentException",
        "int take() IllegalStateException",
        "int undo() IllegalStateException",
        "int gain(int) IndexOutOfBoundsException",
        "int bestCut(int) IndexOutOfBoundsException",
        "int smallest()",
        "int bestNext(int) IndexOutOfBoundsException",
        "int runScript(int,long) IllegalArgumentException",
        "int simulate(long,int) IllegalArgumentException",
        "int save(int) IndexOutOfBoundsException",
        "int restore(int) IndexOutOfBoundsException IllegalStateException",
    };

    private static final Expect expect = new Expect();

    public static void main(String[] args) {
        face();
        membersBeside();
        expect.end();
    }

    private static String told(Method method) {
        List<String> types = new ArrayList<>();
        for (Class<?> type : method.getParameterTypes()) {
            types.add(type.getSimpleName());
        }
        StringBuilder told = new StringBuilder(method.getReturnType().getSimpleName());
        told.append(' ').append(method.getName()).append('(').append(String.join(",", types)).append(')');
        for (Class<?> thrown : method.getExceptionTypes()) {
            told.append(' ').append(thrown.getSimpleName());
        }
        return told.toString();
    }

    private static void face() {
        TreeSet<String> found = new TreeSet<>();
        for (Method method : CodedColumn.class.getDeclaredMethods()) {
            if (Modifier.isPublic(method.getModifiers())) {
                found.add(told(method));
            }
        }
        expect.tell("the public methods", new TreeSet<>(Arrays.asList(METHODS)).toString(), found.toString());
        expect.is(-9999, "NONE", () -> CodedColumn.NONE);
        expect.is(Modifier.PUBLIC | Modifier.FINAL, "the class", () -> CodedColumn.class.getModifiers());
        Constructor<?>[] constructors = CodedColumn.class.getDeclaredConstructors();
        expect.is(1, "the constructors", () -> constructors.length);
        expect.tell("the constructor", "public CodedColumn()", constructors[0].toString());
    }

    private static void membersBeside() {
        TreeSet<String> face = new TreeSet<>();
        for (Method method : CodedColumn.class.getDeclaredMethods()) {
            if (Modifier.isPublic(method.getModifiers())) {
                face.add(method.getName());
            }
        }
        for (Method method : CodedColumn.class.getDeclaredMethods()) {
            boolean isPrivate = Modifier.isPrivate(method.getModifiers());
            expect.is(isPrivate ? 0 : 1, method + " has a name of the face", () -> face.contains(method.getName()) ? 1 : 0);
            expect.is(1, method + " is public or private", () -> isPrivate || face.contains(method.getName()) ? 1 : 0);
        }
        for (Field field : CodedColumn.class.getDeclaredFields()) {
            boolean fits = field.getName().equals("NONE") || Modifier.isPrivate(field.getModifiers());
            expect.is(1, field + " is NONE or private", () -> fits ? 1 : 0);
            staticIsFinal(field);
        }
        for (Class<?> inside : CodedColumn.class.getDeclaredClasses()) {
            int kept = inside.getModifiers() & (Modifier.STATIC | Modifier.PUBLIC | Modifier.PROTECTED);
            expect.is(Modifier.STATIC, inside + " is static and not public", () -> kept);
            for (Field field : inside.getDeclaredFields()) {
                staticIsFinal(field);
            }
        }
    }

    private static void staticIsFinal(Field field) {
        int kept = field.getModifiers() & (Modifier.STATIC | Modifier.FINAL);
        expect.is(1, field + " is final, if it is static", () -> kept == Modifier.STATIC ? 0 : 1);
    }
}
