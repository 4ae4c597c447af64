import java.io.IOException;
import java.nio.file.Files;
import java.nio.file.Path;
import java.util.regex.Matcher;
import java.util.regex.Pattern;

/** The words that ../shared/LANGUAGE.md leaves out do not stand in the class; read from the project's folder. */
public final class LanguageTest {
    private static final String[] LEFT_OUT = {
        "\\b(import|package)\\b", // one file, and a library that needs no import here
        "\\b(throw|throws|try|catch|synchronized|assert)\\b", // rule 6
        "->|::", // rules 2 and 6: no lambda, no method reference, no switch with patterns
        "\\b\\w+Exact\\b", // rule 4
        "\\bstatic\\s*\\{", // rule 5
        "\\b(equals|hashCode|toString|getClass)\\b", // rule 6
        "\\b(double|float|Thread|Random|System\\.(?!arraycopy))\\b", // rules 3 and 13
    };

    public static void main(String[] args) throws IOException {
        Due due = new Due();
        String code = withoutComments(Files.readString(Path.of("src/main/java/RangeRules.java")));
        due.answer("the class is in the file", code.contains("public final class RangeRules"), true);
        for (String words : LEFT_OUT) {
            Matcher found = Pattern.compile(words).matcher(code);
            boolean stands = found.find();
            due.answer("what rules leave out: " + (stands ? found.group() : words), stands, false);
        }
        due.end();
    }

    private static String withoutComments(String source) {
        return source.replaceAll("(?s)/\\*.*?\\*/", "").replaceAll("//[^\\n]*", "");
    }
}
