import java.io.IOException;
import java.lang.reflect.Method;
import java.lang.reflect.Modifier;
import java.nio.file.Files;
import java.nio.file.Path;
import java.util.regex.Matcher;
import java.util.regex.Pattern;
import java.util.stream.Stream;

/** What of ../shared/LANGUAGE.md can be seen by words and counts: the class holds nothing that the rules leave out. */
public final class LanguageTest {
    private static final Path SOURCE = Path.of("src/main/java/ParoleCards.java");

    private static final Due due = new Due("LanguageTest");

    private static final String[] LEFT_OUT = {"package", "import", "synchronized", "assert", "try", "catch", "finally",
        "native", "volatile", "transient", "strictfp", "var", "record", "instanceof", "protected", "System", "Thread",
        "Object", "equals", "hashCode", "toString", "getMessage", "\\w*Exact", "->", "::", "@"};

    public static void main(String[] args) throws IOException {
        String code = withoutCommentsAndTexts(Files.readString(SOURCE));
        for (String word : LEFT_OUT) {
            String pattern = Character.isLetter(word.charAt(0)) || word.startsWith("\\") ? "\\b" + word + "\\b" : word;
            due.equal("a look for " + word, false, Pattern.compile(pattern).matcher(code).find());
        }
        onlyThese(code, "\\bthrow new (\\w+)",
            "IndexOutOfBoundsException|IllegalArgumentException|IllegalStateException");
        onlyThese(code, "\\b([A-Z]\\w*)", ownNames() + "|Math|\\w+Exception");
        onlyThese(code, "\\bMath\\.(\\w+)", "min|max");
        due.equal("throws that make no exception", false, Pattern.compile("\\bthrow (?!new )").matcher(code).find());
        due.equal("signs beyond 127", true, code.chars().allMatch(sign -> sign < 128));
        sizes();
        due.end();
    }

    /** The constants, in capitals alone, and the class with those inside it. */
    private static String ownNames() {
        StringBuilder names = new StringBuilder("[A-Z_]+|ParoleCards");
        for (Class<?> inner : ParoleCards.class.getDeclaredClasses()) {
            names.append("|").append(inner.getSimpleName());
        }
        return names.toString();
    }

    private static void sizes() {
        Class<?>[] inner = ParoleCards.class.getDeclaredClasses();
        due.equal("at most twelve classes", true, 1 + inner.length <= 12);
        sizesOf(ParoleCards.class);
        for (Class<?> one : inner) {
            sizesOf(one);
        }
    }

    private static void sizesOf(Class<?> one) {
        long fields = Stream.of(one.getDeclaredFields()).filter(it -> !Modifier.isStatic(it.getModifiers())).count();
        due.equal(one + " has at most twenty fields", true, fields <= 20);
        for (Method method : one.getDeclaredMethods()) {
            due.equal(method + " takes at most seven", true, method.getParameterCount() <= 7);
        }
    }

    private static String withoutCommentsAndTexts(String source) {
        String texts = source.replaceAll("\"([^\"\\\\\n]|\\\\.)*\"", "\"\"");
        return texts.replaceAll("(?s)/\\*.*?\\*/", " ").replaceAll("//[^\n]*", " ");
    }

    private static void onlyThese(String code, String pattern, String allowed) {
        Matcher found = Pattern.compile(pattern).matcher(code);
        while (found.find()) {
            due.equal(found.group() + " is allowed", true, found.group(1).matches(allowed));
        }
    }
}
