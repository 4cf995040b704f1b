import java.io.IOException;
import java.lang.reflect.Constructor;
import java.lang.reflect.Field;
import java.lang.reflect.Member;
import java.lang.reflect.Method;
import java.lang.reflect.Modifier;
import java.nio.file.Files;
import java.nio.file.Path;
import java.util.ArrayList;
import java.util.Arrays;
import java.util.List;
import java.util.Set;
import java.util.TreeSet;

/** The document's face, and the rules of LANGUAGE.md that a program can see. */
public final class FaceTest {
    private static final String[] FACE = {
        "int add(int, long, long, int) IllegalArgumentException IllegalStateException",
        "int drop(int) IllegalArgumentException",
        "int pack()",
        "int size()",
        "int read()",
        "void poke(int, int) IllegalArgumentException IndexOutOfBoundsException"
            + " IllegalStateException",
        "int cut(int) IndexOutOfBoundsException",
        "int byteAt(int) IndexOutOfBoundsException",
        "long event(int, int) NoSuchElementException IllegalArgumentException",
        "int at(long)",
        "int count(int)"};
    private static final String[] RULED_OUT = {"->", "::", "finally", "synchronized", "assert ",
        "Exact(", "catch", "protected", "package ", "java.io", "System.out", "Random(", "double",
        "float", "Object"};

    private static final Check check = new Check();

    public static void main(String[] args) throws IOException {
        face();
        for (Class<?> inner : EventLog.class.getDeclaredClasses()) {
            innerClass(inner);
        }
        check.isTrue("at most twelve classes", EventLog.class.getDeclaredClasses().length < 12);
        source();
        check.end();
    }

    private static void face() {
        int modifiers = EventLog.class.getModifiers();
        check.isTrue("public and final",
            Modifier.isPublic(modifiers) && Modifier.isFinal(modifiers));
        check.isTrue("no package", EventLog.class.getPackageName().isEmpty());
        Constructor<?>[] constructors = EventLog.class.getDeclaredConstructors();
        check.isTrue("one public constructor without parameters", constructors.length == 1
            && Modifier.isPublic(constructors[0].getModifiers())
            && constructors[0].getParameterCount() == 0);
        Set<String> got = new TreeSet<>();
        for (Method method : EventLog.class.getDeclaredMethods()) {
            if (!Modifier.isPrivate(method.getModifiers())) {
                got.add((Modifier.isPublic(method.getModifiers()) ? "" : "not public: ")
                    + told(method));
            }
        }
        check.same("the face", got.toString(), new TreeSet<>(Arrays.asList(FACE)).toString());
        for (Field field : EventLog.class.getDeclaredFields()) {
            check.isTrue(field + " is private", Modifier.isPrivate(field.getModifiers()));
        }
        ownNames(EventLog.class);
        fields(EventLog.class);
    }

    private static String told(Method method) {
        List<String> parameters = new ArrayList<>();
        for (Class<?> type : method.getParameterTypes()) {
            parameters.add(type.getSimpleName());
        }
        StringBuilder text = new StringBuilder(method.getReturnType().getSimpleName());
        text.append(' ').append(method.getName());
        text.append('(').append(String.join(", ", parameters)).append(')');
        for (Class<?> type : method.getExceptionTypes()) {
            text.append(' ').append(type.getSimpleName());
        }
        return text.toString();
    }

    private static void innerClass(Class<?> inner) {
        int modifiers = inner.getModifiers();
        check.isTrue(inner + " is static", Modifier.isStatic(modifiers));
        check.isTrue(inner + " is not seen outside",
            !Modifier.isPublic(modifiers) && !Modifier.isProtected(modifiers));
        ownNames(inner);
        fields(inner);
    }

    private static void ownNames(Class<?> type) {
        Set<String> faceNames = new TreeSet<>();
        for (String line : FACE) {
            faceNames.add(line.substring(line.indexOf(' ') + 1, line.indexOf('(')));
        }
        for (Method method : type.getDeclaredMethods()) {
            boolean ofFace = type == EventLog.class && Modifier.isPublic(method.getModifiers());
            check.isTrue(method + " has a name of its own",
                ofFace || !faceNames.contains(method.getName()));
            check.isTrue(method + " takes at most seven", method.getParameterCount() <= 7);
        }
    }

    private static void fields(Class<?> type) {
        long own = Arrays.stream(type.getDeclaredFields()).filter(f -> !isStatic(f)).count();
        check.isTrue(type + " has at most twenty fields", own <= 20);
        for (Field field : type.getDeclaredFields()) {
            check.isTrue(field + " is no static state",
                !isStatic(field) || Modifier.isFinal(field.getModifiers()));
        }
    }

    private static boolean isStatic(Member member) {
        return Modifier.isStatic(member.getModifiers());
    }

    private static void source() throws IOException {
        String text = Files.readString(Path.of("src/main/java/EventLog.java"));
        for (String part : RULED_OUT) {
            check.isTrue("no " + part.trim() + " in the source", !text.contains(part));
        }
        for (String line : text.lines().toList()) {
            if (line.startsWith("import ")) {
                check.same("an import", line, "import java.util.NoSuchElementException;");
            }
        }
    }
}
