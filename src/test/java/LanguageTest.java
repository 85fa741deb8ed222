import java.io.IOException;
import java.lang.reflect.Field;
import java.lang.reflect.Method;
import java.lang.reflect.Modifier;
import java.nio.file.Files;
import java.nio.file.Path;
import java.util.ArrayList;
import java.util.HashSet;
import java.util.List;
import java.util.Set;
import java.util.regex.Matcher;
import java.util.regex.Pattern;

/** What of ../shared/LANGUAGE.md can be seen from the program's text; the file's path is the argument. */
public final class LanguageTest {
    private static final String[] NEVER = {
        "\\b(throw|throws|try|catch|synchronized|assert|import static|package|record|protected|native|volatile)\\b",
        "->", "::", "\\bnew\\s+\\w+\\s*\\([^;]*\\)\\s*\\{", "@", "\\bSystem\\.(out|err|in|nano|current|exit)",
        "\\b(Exact|Random|Thread|Object|hashCode|toString)\\b", "\\b(float|double)\\b", "\"\\s*\\+|\\+\\s*\"",
        "while\\s*\\(", "^\\s*static\\s*\\{"};

    private static void never(String text) {
        for (String pattern : NEVER) {
            Matcher found = Pattern.compile(pattern, Pattern.MULTILINE).matcher(text);
            Check.holds("no " + pattern + ", but " + (found.reset().find() ? found.group() : ""), !found.find(0));
        }
    }

    private static void imports(String text) {
        Matcher found = Pattern.compile("^import (.*);$", Pattern.MULTILINE).matcher(text);
        while (found.find()) {
            Check.holds("import " + found.group(1), List.of("java.util.ArrayList", "java.util.List")
                .contains(found.group(1)));
        }
    }

    private static void plainSigns(String text) {
        for (int i = 0; i < text.length(); i++) {
            if (text.charAt(i) > 126) {
                Check.holds("sign " + (int) text.charAt(i), false);
            }
        }
    }

    private static void shortMethods(String[] lines) {
        int from = 0;
        for (int i = 0; i < lines.length; i++) {
            if (lines[i].matches(" {4,8}[\\w<>\\[\\] ]+\\(.*\\{")) {
                from = i;
            }
            if (lines[i].matches(" {4,8}\\}")) {
                Check.holds("short: " + lines[from], i - from < 60);
            }
        }
    }

    private static void classes(String text) {
        Matcher found = Pattern.compile("\\b(class|enum|interface) \\w+").matcher(text);
        int many = 0;
        while (found.find()) {
            many++;
        }
        Check.holds("classes: " + many, many <= 12);
        Matcher inner = Pattern.compile("^ {4}(.*)\\bclass \\w+", Pattern.MULTILINE).matcher(text);
        while (inner.find()) {
            Check.holds("static: " + inner.group(), inner.group(1).contains("static "));
        }
    }

    private static void library(String text) {
        Set<String> may = Set.of("Math.min", "Math.max", "Math.abs", "Integer.bitCount",
            "Integer.numberOfTrailingZeros", "Long.MIN_VALUE");
        Matcher found = Pattern.compile("\\b(Math|Integer|Long|System|Arrays|List|String|Character|Short|Byte|Boolean)"
            + "\\.\\w+").matcher(text);
        while (found.find()) {
            Check.holds("of the library: " + found.group(), may.contains(found.group()));
        }
    }

    private static void members() {
        List<Class<?>> all = new ArrayList<>(List.of(LaidQuarrel.class.getDeclaredClasses()));
        all.add(LaidQuarrel.class);
        Set<String> face = new HashSet<>();
        for (Method method : LaidQuarrel.class.getDeclaredMethods()) {
            Check.holds("one method of a name: " + method.getName(), face.add(method.getName()));
        }
        for (Class<?> one : all) {
            int fields = 0;
            for (Field field : one.getDeclaredFields()) {
                boolean isStatic = Modifier.isStatic(field.getModifiers());
                fields += isStatic ? 0 : 1;
                Check.holds("final, if static: " + field, !isStatic || Modifier.isFinal(field.getModifiers()));
            }
            Check.holds("some twenty fields: " + one, fields <= 20);
            for (Method method : one.getDeclaredMethods()) {
                Check.holds("at most seven parameters: " + method, method.getParameterCount() <= 7);
            }
            Check.holds("not public: " + one, one == LaidQuarrel.class || !Modifier.isPublic(one.getModifiers())
                && !Modifier.isProtected(one.getModifiers()) && Modifier.isStatic(one.getModifiers()));
            Check.due("classes inside " + one, one.getDeclaredClasses().length, one == LaidQuarrel.class
                ? all.size() - 1 : 0);
        }
    }

    public static void main(String[] args) throws IOException {
        String whole = Files.readString(Path.of(args[0]));
        plainSigns(whole);
        String text = whole.replaceAll("(?s)/\\*.*?\\*/", "").replaceAll("//[^\n]*", "");
        never(text);
        imports(text);
        shortMethods(whole.split("\n"));
        classes(text);
        library(text);
        members();
        Check.end("LanguageTest");
    }
}
