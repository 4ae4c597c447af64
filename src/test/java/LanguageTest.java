import java.io.IOException;
import java.nio.file.Files;
import java.nio.file.Path;
import java.util.regex.Matcher;
import java.util.regex.Pattern;

/** The words that ../shared/LANGUAGE.md leaves out do not stand in the class; read from the project's folder. */
public final class LanguageTest {
    private static final String[] LEFT_OUT = {
        "\\b(import|package)\\b", // one file, and a library that needs no import here
        "\\b(throw|throws|try|catch|synchronized|assert)\\b", // rule 6
        "->|::", // rules 2 and 6: no lambda, no method reference, no switch with patterns
        "\\b\\w+Exact\\b", // rule 4
        "\\bstatic\\s*\\{", // rule 5
        "\\b(equals|hashCode|toString|getClass)\\b", // rule 6
        "\\b(double|float|Thread|Random)\\b", // rules 3 and 13
        "\\bSystem\\b(?!\\.arraycopy\\()", // rules 4 and 13
        "\\b(Integer|Long|Math)\\b(?!\\.\\w+\\()", // rule 4: their functions alone, so no constant of theirs
        "\\b(String|StringBuilder|List|ArrayList|Arrays|Object)\\b", // not needed here, so not looked at further
    };

    public static void main(String[] args) throws IOException {
        Due due = new Due();
        String code = withoutComments(Files.readString(Path.of("src/main/java/RangeRules.java")));
        due.answer("the class is in the file", code.contains("public final class RangeRules"), true);
        for (String words : LEFT_OUT) {
            Matcher found = Pattern.compile(words).matcher(code);
            boolean stands = found.find();
            due.answer("what rules leave out: " + (stands ? found.group() : words), stands, false);
        }
        shortMethods(due, code);
        due.end();
    }

    /** Rule 11: a method's lines end at the brace that stands below its first letter. */
    private static void shortMethods(Due due, String code) {
        Matcher method = Pattern.compile("(?ms)^( {4,8})(?:public|private)[^;={]*\\([^)]*\\) \\{$.*?^\\1\\}$").matcher(code);
        int methods = 0;
        while (method.find()) {
            methods++;
            String text = method.group().strip();
            due.answer(text.lines().findFirst().orElse("") + " is short", text.lines().count() <= 60, true);
        }
        due.answer("methods were found", methods > 9, true);
    }

    private static String withoutComments(String source) {
        return source.replaceAll("(?s)/\\*.*?\\*/", "").replaceAll("//[^\\n]*", "");
    }
}
