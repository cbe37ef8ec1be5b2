import java.io.IOException;
import java.nio.file.Files;
import java.nio.file.Path;
import java.util.Arrays;
import java.util.List;
import java.util.regex.Matcher;
import java.util.regex.Pattern;

/** What can be seen of the rules of LANGUAGE.md in the program's text; run from the project's root. */
public final class LanguageTest {
    private static final List<String> NEVER = List.of("throw", "throws", "try", "catch", "finally", "synchronized",
            "assert", "import", "package", "System\\.out", "Exact", "->", "::", "toString", "hashCode", "double", "float");

    public static void main(String[] args) throws IOException {
        Due due = new Due();
        String text = Files.readString(Path.of("src/main/java/NightDots.java"));
        String code = text.replaceAll("(?s)/\\*.*?\\*/", "").replaceAll("//[^\n]*", "");
        for (String word : NEVER) {
            String edge = Character.isLetter(word.charAt(0)) && !word.equals("Exact") ? "\\b" : "";
            due.isTrue("no " + word, !Pattern.compile(edge + word + edge).matcher(code).find());
        }
        due.isTrue("some twelve classes", count(code, "\\bclass\\b") <= 12);
        due.is("static classes inside", count(code, "\\bprivate static final class\\b"), count(code, "\\bclass\\b") - 1);
        due.is("static fields are final", count(code, "\\bstatic (int|long|boolean|char|String)(\\[\\])? \\w+( =|;)"), 0);
        methodNames(due);
        due.end();
    }

    private static int count(String code, String pattern) {
        Matcher matcher = Pattern.compile(pattern).matcher(code);
        int found = 0;
        while (matcher.find()) {
            found++;
        }
        return found;
    }

    /** No method inside bears the name of one of the face, and none takes more than seven parameters. */
    private static void methodNames(Due due) {
        List<String> face = Arrays.stream(NightDots.class.getMethods()).map(method -> method.getName()).toList();
        for (Class<?> inside : NightDots.class.getDeclaredClasses()) {
            for (var method : inside.getDeclaredMethods()) {
                due.isTrue(inside + " " + method.getName(), !face.contains(method.getName()) && method.getParameterCount() <= 7);
            }
        }
    }
}
