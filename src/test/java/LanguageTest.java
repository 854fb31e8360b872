import java.io.IOException;
import java.lang.reflect.Field;
import java.lang.reflect.Modifier;
import java.nio.file.Files;
import java.nio.file.Path;
import java.util.List;
import java.util.regex.Matcher;
import java.util.regex.Pattern;

/** What of ../shared/LANGUAGE.md can be seen in the text of the class and in the classes it makes. */
public final class LanguageTest {
    private static final String[] BANNED = {
        "->", "::", "\\bcatch\\b", "\\bfinally\\b", "\\bsynchronized\\b", "\\bassert\\b", "\\brecord\\b",
        "\\bpackage\\b", "\\bprotected\\b", "\\bequals\\b", "\\bhashCode\\b", "\\btoString\\b", "\\w+Exact\\b",
        "\\bdouble\\b", "\\bfloat\\b", "\\bSystem\\b", "\\bRandom\\b", "\\bThread\\b", "static \\{", "\" \\+",
        "\\+ \"", "\\bNaN\\b", "\\bimport static\\b", "\\bextends\\b", "_VALUE\\b"
    };

    public static void main(String[] args) throws IOException {
        String text = Files.readString(Path.of("src/main/java/ReceivablesBook.java"));
        String code = text.replaceAll("(?s)/\\*.*?\\*/", "").replaceAll("//[^\n]*", "");
        for (String word : BANNED) {
            Check.isTrue("not in the language: " + word, !Pattern.compile(word).matcher(code).find());
        }
        Check.isTrue("plain characters alone", text.chars().allMatch(c -> c == '\n' || c >= 32 && c < 127));
        imports(code);
        exceptions(code);
        parameters(code);
        methodLengths(text);
        classes();
        Check.end("LanguageTest");
    }

    private static void imports(String code) {
        Matcher found = Pattern.compile("import ([\\w.]+);").matcher(code);
        while (found.find()) {
            Check.isTrue("import " + found.group(1),
                    List.of("java.util.ArrayList", "java.util.Arrays").contains(found.group(1)));
        }
    }

    private static void exceptions(String code) {
        Matcher found = Pattern.compile("\\bthrow\\b([^;]*);").matcher(code);
        while (found.find()) {
            Check.isTrue("throw" + found.group(1), found.group(1).matches(
                    " new (IndexOutOfBounds|IllegalArgument|IllegalState)Exception\\(\"[^\"]*\"\\)"));
        }
    }

    private static void parameters(String code) {
        Matcher found = Pattern.compile("\\w+ \\w+\\(([^()]*)\\)[^;{]*\\{").matcher(code);
        while (found.find()) {
            Check.isTrue("at most seven parameters", found.group(1).split(",").length <= 7);
        }
    }

    private static void methodLengths(String text) {
        int length = 0;
        for (String line : text.split("\n")) {
            length = line.isBlank() ? 0 : length + 1;
            Check.isTrue("short methods: " + line, length <= 60);
        }
    }

    private static void classes() {
        Class<?>[] inside = ReceivablesBook.class.getDeclaredClasses();
        Check.isTrue("at most twelve classes", inside.length < 12);
        fields(ReceivablesBook.class);
        for (Class<?> c : inside) {
            Check.isTrue(c.getSimpleName() + " is private and static",
                    Modifier.isPrivate(c.getModifiers()) && Modifier.isStatic(c.getModifiers()));
            fields(c);
        }
    }

    private static void fields(Class<?> c) {
        int own = 0;
        for (Field f : c.getDeclaredFields()) {
            if (Modifier.isStatic(f.getModifiers())) {
                Check.isTrue("static " + f.getName() + " is final", Modifier.isFinal(f.getModifiers()));
            } else {
                own++;
            }
        }
        Check.isTrue(c.getSimpleName() + " has at most twenty fields", own <= 20);
    }
}
