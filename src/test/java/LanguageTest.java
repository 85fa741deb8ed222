import java.io.IOException;
import java.lang.reflect.Field;
import java.lang.reflect.Method;
import java.lang.reflect.Modifier;
import java.nio.file.Files;
import java.nio.file.Path;
import java.util.ArrayList;
import java.util.HashSet;
import java.util.List;
import java.util.Set;
import java.util.regex.Matcher;
import java.util.regex.Pattern;

/** What of ../shared/LANGUAGE.md can be seen in the program's text and members. */
public final class LanguageTest {
    private static final String[] NEVER = {
        "\\b(throw|throws|try|catch|synchronized|assert|import static|package|record|protected|native|volatile)\\b",
        "->", "::", "\\bnew\\s+\\w+\\s*\\([^;]*\\)\\s*\\{", "@", "\\bSystem\\.(out|err|in|nano|current|exit)",
        "\\b(Exact|Random|Thread|Object|hashCode|toString)\\b", "\\b(float|double)\\b", "\"\\s*\\+|\\+\\s*\"",
        "while\\s*\\(", "^\\s*static\\s*\\{"};

    private static void never(String text) {
        for (String pattern : NEVER) {
            Matcher found = Pattern.compile(pattern, Pattern.MULTILINE).matcher(text);
            Check.holds("no " + pattern + ", but " + (found.reset().find() ? found.group() : ""), !found.find(0));
        }
    }

    private static void imports(String text) {
        Matcher found = Pattern.compile("^import (.*);$", Pattern.MULTILINE).matcher(text);
        while (found.find()) {
            Check.holds("import " + found.group(1), List.of("java.util.ArrayList", "java.util.List")
                .contains(found.group(1)));
        }
    }

    private static void plainSigns(String text) {
        for (int i = 0; i < text.length(); i++) {
            if (text.charAt(i) > 126) {
                Check.holds("sign " + (int) text.charAt(i), false);
            }
        }
    }

    private static void members() {
        List<Class<?>> all = new ArrayList<>(List.of(LaidQuarrel.class.getDeclaredClasses()));
        all.add(LaidQuarrel.class);
        Set<String> face = new HashSet<>();
        for (Method method : LaidQuarrel.class.getDeclaredMethods()) {
            Check.holds("one method of a name: " + method.getName(), face.add(method.getName()));
        }
        for (Class<?> one : all) {
            int fields = 0;
            for (Field field : one.getDeclaredFields()) {
                boolean isStatic = Modifier.isStatic(field.getModifiers());
                fields += isStatic ? 0 : 1;
                Check.holds("final, if static: " + field, !isStatic || Modifier.isFinal(field.getModifiers()));
            }
            Check.holds("some twenty fields: " + one, fields <= 20);
            for (Method method : one.getDeclaredMethods()) {
                Check.holds("at most seven parameters: " + method, method.getParameterCount() <= 7);
            }
            Check.holds("not public: " + one, one == LaidQuarrel.class || !Modifier.isPublic(one.getModifiers())
                && !Modifier.isProtected(one.getModifiers()) && Modifier.isStatic(one.getModifiers()));
            Check.due("classes inside " + one, one.getDeclaredClasses().length, one == LaidQuarrel.class
                ? all.size() - 1 : 0);
        }
    }

    public static void main(String[] args) throws IOException {
        String whole = Files.readString(Path.of("src/main/java/LaidQuarrel.java"));
        plainSigns(whole);
        String text = whole.replaceAll("(?s)/\\*.*?\\*/", "").replaceAll("//[^\n]*", "");
        never(text);
        imports(text);
        members();
        Check.end("LanguageTest");
    }
}
