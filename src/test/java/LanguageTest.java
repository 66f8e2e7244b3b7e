import java.io.IOException;
import java.nio.file.Files;
import java.nio.file.Path;
import java.util.regex.Matcher;
import java.util.regex.Pattern;

/** What of LANGUAGE.md can be told from the text of the program; the argument is the file. */
public final class LanguageTest {
    public static void main(String[] args) throws IOException {
        String file = Files.readString(Path.of(args[0]));
        String code = file.replaceAll("(?s)/\\*.*?\\*/", "").replaceAll("//[^\n]*", "")
            .replaceAll("'(\\\\.|[^'])'", "' '").replaceAll("\"[^\"]*\"", "\"\"");
        none(code, "\\b(throw|throws|try|catch|finally|synchronized|assert|native|volatile|transient|package)\\b");
        none(code, "->|::|@");
        none(code, "\\b(Exact|random|currentTimeMillis|nanoTime|Thread|Runtime|getenv|System\\.(?!arraycopy))\\b");
        none(code, "\\b\\w+Exact\\b");
        none(code, "\\b(HashMap|Map|Set|Optional|Stream|Object|Random|Scanner|File|Deque)\\b");
        none(code, "\\b(hashCode|toString|equals)\\(");
        none(code, "\\b(float|double)\\b");
        Matcher imports = Pattern.compile("import ([\\w.]+);").matcher(code);
        while (imports.find()) {
            Check.holds("import of " + imports.group(1),
                imports.group(1).matches("java\\.util\\.(Arrays|ArrayList|List|Iterator)"));
        }
        Matcher classes = Pattern.compile("\\b(class|record|enum|interface)\\s+\\w+").matcher(code);
        int count = 0;
        while (classes.find()) {
            count++;
        }
        Check.holds("twelve classes at most: " + count, count > 0 && count <= 12);
        for (int p = 0; p < file.length(); p++) {
            if (file.charAt(p) > 127) {
                Check.holds("sign " + (int) file.charAt(p) + " at " + p, false);
            }
        }
        Check.end("LanguageTest");
    }

    private static void none(String code, String pattern) {
        Matcher found = Pattern.compile(pattern).matcher(code);
        Check.holds("none of " + pattern, !found.find());
    }
}
