import java.io.IOException;
import java.lang.reflect.Constructor;
import java.lang.reflect.Field;
import java.lang.reflect.Method;
import java.lang.reflect.Modifier;
import java.nio.file.Files;
import java.nio.file.Path;
import java.util.Arrays;
import java.util.Set;
import java.util.TreeSet;

/** The class has the document's public face, and nothing else that can be reached from outside. */
public final class FaceTest {
    private static final Due due = new Due("FaceTest");

    private static final String[] FACE = {
        "int admit(int,int) throws IllegalArgumentException,IllegalStateException",
        "int course(int,int,int) throws IndexOutOfBoundsException,IllegalArgumentException,IllegalStateException",
        "int offence(int,int) throws IndexOutOfBoundsException,IllegalArgumentException,IllegalStateException",
        "int appeal(int,int) throws IndexOutOfBoundsException,IllegalStateException",
        "int release(int) throws IndexOutOfBoundsException",
        "boolean isIn(int) throws IndexOutOfBoundsException",
        "int regime(int) throws IndexOutOfBoundsException",
        "int papers(int,boolean) throws IndexOutOfBoundsException",
        "int setTools(int,int) throws IndexOutOfBoundsException,IllegalArgumentException,IllegalStateException",
        "int toolsOut(int) throws IndexOutOfBoundsException",
        "int addOrder(int,int,int,int) throws "
            + "IndexOutOfBoundsException,IllegalArgumentException,IllegalStateException",
        "int assign(int,int) throws IndexOutOfBoundsException,IllegalStateException",
        "int takeOff(int) throws IndexOutOfBoundsException,IllegalStateException",
        "int orderOf(int) throws IndexOutOfBoundsException",
        "int left(int) throws IndexOutOfBoundsException",
        "int account(int,int) throws IndexOutOfBoundsException",
        "int buy(int,int) throws IndexOutOfBoundsException,IllegalArgumentException,IllegalStateException",
        "int limit(int) throws IndexOutOfBoundsException",
        "int paidOut(int) throws IndexOutOfBoundsException",
        "int pass(int) throws IllegalArgumentException",
    };

    public static void main(String[] args) throws IOException {
        Class<?> face = ParoleCards.class;
        due.equal("the class", "public final", Modifier.toString(face.getModifiers()));
        due.equal("its package", "", face.getPackageName());
        due.equal("constructors", "[public ParoleCards()]", Arrays.toString(face.getDeclaredConstructors()));
        publicMethods(face);
        asTheDocumentHasIt();
        innerMembers(face);
        for (Class<?> inner : face.getDeclaredClasses()) {
            innerClass(inner);
        }
        due.end();
    }

    private static String plain(Method method) {
        String text = method.toString().replace("java.lang.", "").replace("ParoleCards.", "");
        return text.replace("public ", "").replace("final ", "");
    }

    private static Set<String> names() {
        Set<String> names = new TreeSet<>();
        for (String method : FACE) {
            names.add(method.substring(method.indexOf(' ') + 1, method.indexOf('(')));
        }
        return names;
    }

    private static void publicMethods(Class<?> face) {
        Set<String> want = new TreeSet<>(Arrays.asList(FACE));
        Set<String> got = new TreeSet<>();
        for (Method method : face.getDeclaredMethods()) {
            if (Modifier.isPublic(method.getModifiers())) {
                got.add(plain(method));
                due.equal(method + " is static", false, Modifier.isStatic(method.getModifiers()));
            }
        }
        due.equal("the public methods", want, got);
    }

    /** The names of parameters are not in the compiled class, so the words of the source are compared. */
    private static void asTheDocumentHasIt() throws IOException {
        String document = Files.readString(Path.of("../shared/DOC.md"));
        int first = document.indexOf("```java\n") + "```java\n".length();
        String[] lines = document.substring(first, document.indexOf("```", first)).strip().split("\n");
        String source = inOneLine(Files.readString(Path.of("src/main/java/ParoleCards.java")));
        for (String line : Arrays.copyOf(lines, lines.length - 1)) {
            String words = inOneLine(line).replaceFirst(";$", " {");
            due.equal(words + " stands in the source", true, source.contains(words));
        }
        due.equal("lines of the face", FACE.length + 3, lines.length);
    }

    private static String inOneLine(String text) {
        return text.strip().replaceAll("\\s+", " ");
    }

    private static void innerMembers(Class<?> face) {
        for (Method method : face.getDeclaredMethods()) {
            if (!Modifier.isPublic(method.getModifiers())) {
                due.equal(method + " is private", true, Modifier.isPrivate(method.getModifiers()));
                due.equal(method + " bears a public name", false, names().contains(method.getName()));
            }
        }
        for (Field field : face.getDeclaredFields()) {
            due.equal(field + " is private", true, Modifier.isPrivate(field.getModifiers()));
            staticFieldIsConstant(field);
        }
    }

    private static void innerClass(Class<?> inner) {
        due.equal(inner + " is static", true, Modifier.isStatic(inner.getModifiers()));
        due.equal(inner + " is public", false, Modifier.isPublic(inner.getModifiers()));
        for (Method method : inner.getDeclaredMethods()) {
            due.equal(method + " bears a public name", false, names().contains(method.getName()));
        }
        for (Constructor<?> constructor : inner.getDeclaredConstructors()) {
            due.equal(constructor + " takes at most seven", true, constructor.getParameterCount() <= 7);
        }
        for (Field field : inner.getDeclaredFields()) {
            staticFieldIsConstant(field);
        }
    }

    private static void staticFieldIsConstant(Field field) {
        if (Modifier.isStatic(field.getModifiers())) {
            due.equal(field + " is final", true, Modifier.isFinal(field.getModifiers()));
        }
    }
}
