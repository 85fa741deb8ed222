import java.io.IOException;
import java.nio.file.Files;
import java.nio.file.Path;
import java.util.List;
import java.util.regex.Matcher;
import java.util.regex.Pattern;

/** What of ../shared/LANGUAGE.md can be seen from the program's text; the file's path is the argument. */
public final class LanguageTest {
    private static final String[] NEVER = {
        "\\b(throw|throws|try|catch|synchronized|assert|import static|package|record|protected|native|volatile)\\b",
        "->", "::", "\\bnew\\s+\\w+\\s*\\([^;]*\\)\\s*\\{", "@", "\\bSystem\\.(out|err|in|nano|current|exit)",
        "\\b(Exact|Random|Thread|Object|hashCode|toString)\\b", "\\b(float|double)\\b", "\"\\s*\\+|\\+\\s*\"",
        "while\\s*\\(", "^\\s*static\\s*\\{"};

    private static void never(String text) {
        for (String pattern : NEVER) {
            Matcher found = Pattern.compile(pattern, Pattern.MULTILINE).matcher(text);
            Check.holds("no " + pattern + ", but " + (found.reset().find() ? found.group() : ""), !found.find(0));
        }
    }

    private static void imports(String text) {
        Matcher found = Pattern.compile("^import (.*);$", Pattern.MULTILINE).matcher(text);
        while (found.find()) {
            Check.holds("import " + found.group(1), List.of("java.util.ArrayList", "java.util.List")
                .contains(found.group(1)));
        }
    }

    private static void plainSigns(String text) {
        for (int i = 0; i < text.length(); i++) {
            if (text.charAt(i) > 126) {
                Check.holds("sign " + (int) text.charAt(i), false);
            }
        }
    }

    private static void shortMethods(String[] lines) {
        int from = 0;
        for (int i = 0; i < lines.length; i++) {
            if (lines[i].matches(" {4,8}[\\w<>\\[\\] ]+\\(.*\\{")) {
                from = i;
            }
            if (lines[i].matches(" {4,8}\\}")) {
                Check.holds("short: " + lines[from], i - from < 60);
            }
            Check.holds("at most seven parameters: " + lines[i], lines[i].split(",", -1).length <= 12);
        }
    }

    private static void classes(String text) {
        Matcher found = Pattern.compile("\\b(class|enum|interface) \\w+").matcher(text);
        int many = 0;
        while (found.find()) {
            many++;
        }
        Check.holds("classes: " + many, many <= 12);
        Matcher inner = Pattern.compile("^ {4}(.*)\\bclass \\w+", Pattern.MULTILINE).matcher(text);
        while (inner.find()) {
            Check.holds("static: " + inner.group(), inner.group(1).contains("static "));
        }
    }

    public static void main(String[] args) throws IOException {
        String whole = Files.readString(Path.of(args[0]));
        plainSigns(whole);
        String text = whole.replaceAll("(?s)/\\*.*?\\*/", "").replaceAll("//[^\n]*", "");
        never(text);
        imports(text);
        shortMethods(whole.split("\n"));
        classes(text);
        Check.end("LanguageTest");
    }
}
