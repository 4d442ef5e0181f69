import java.io.IOException;
import java.nio.file.Files;
import java.nio.file.Path;
import java.util.regex.Matcher;
import java.util.regex.Pattern;

/** What of ../shared/LANGUAGE.md a look at the source's words can tell. */
final class LanguageTest {
    /** What the rules leave no place for: words, the signs of lambdas and method references, texts joined by +. */
    private static final String[] BARRED = {
        "\\bimport\\b", "\\bpackage\\b", "\\bjava\\.", "\\bprotected\\b", "\\bstatic\\s*\\{", "->", "::",
        "\\bfinally\\b", "\\bsynchronized\\b", "\\bassert\\b", "\\bObject\\b", "\\bhashCode\\b",
        "Exact\\(", "_VALUE\\b", "\"\\s*\\+", "\\+\\s*\"",
        "\\b(ArrayIndexOutOfBounds|NullPointer|ClassCast|NegativeArraySize|ArrayStore)Exception\\b",
        "\\bcatch\\s*\\(\\s*(final\\s+)?(Runtime|IndexOutOfBounds|Arithmetic)?(Exception|Throwable|Error)\\b",
    };
    private static final Pattern THROW = Pattern.compile("throw new (\\w+)\\(\"[^\"]*\"\\);");

    public static void main(String[] args) throws IOException {
        Checks checks = new Checks();
        String source = Files.readString(Path.of(args[0]));
        String code = source.replaceAll("(?s)/\\*.*?\\*/", "").replaceAll("//[^\n]*", "");
        for (String words : BARRED) {
            Matcher found = Pattern.compile(words).matcher(code);
            checks.due("the place of " + words, found.find() ? found.start() : -1, -1);
        }
        int written = 0;
        Matcher thrown = THROW.matcher(code);
        while (thrown.find()) {
            written++;
            boolean known = thrown.group(1).equals("IllegalArgumentException")
                    || thrown.group(1).equals("IllegalStateException");
            checks.due(thrown.group(), known, true);
        }
        checks.due("throws that are not throw new E(\"a written text\")", code.split("\\bthrow\\b", -1).length - 1, written);
        for (int i = 0; i < source.length(); i++) {
            checks.due("a sign above 127, at " + i, source.charAt(i) > 127, false);
        }
        checks.end("LanguageTest");
    }
}
