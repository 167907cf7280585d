import java.io.IOException;
import java.lang.reflect.Field;
import java.lang.reflect.Method;
import java.lang.reflect.Modifier;
import java.nio.charset.StandardCharsets;
import java.nio.file.Files;
import java.nio.file.Path;
import java.util.ArrayList;
import java.util.List;
import java.util.Set;
import java.util.regex.Matcher;
import java.util.regex.Pattern;

/** What of ../shared/LANGUAGE.md can be seen from the source and from the compiled face, rule by rule. */
public final class LanguageTest {
    private static final Path SOURCE = Path.of("src/main/java/HollowedByFire.java");
    private static final Set<String> LIBRARY_CALLS = Set.of("Math.abs", "Math.min", "Math.max", "System.arraycopy");

    private static final Check check = new Check("LanguageTest");

    /** The source without comments, and with its texts and characters emptied. */
    private static String bare(String source) {
        return source.replaceAll("(?s)/\\*.*?\\*/", "").replaceAll("//[^\n]*", "")
            .replaceAll("\"[^\"\n]*\"", "\"\"").replaceAll("'[^'\n]+'", "' '");
    }

    private static void no(String source, String rule, String... patterns) {
        for (String p : patterns) {
            Matcher m = Pattern.compile(p).matcher(source);
            boolean found = m.find();
            check.isTrue("rule " + rule + ": found " + (found ? m.group() : ""), !found);
        }
    }

    private static void words(String source) {
        no(source, "1", "\\bpackage\\b", "\\bimport\\b", "\\bprotected\\b");
        no(source, "2", "->", "::", "\\bnew\\s+\\w+\\s*(<[^>]*>)?\\([^)]*\\)\\s*\\{");
        no(source, "3", "\\b(double|float|Object|HashMap|Map|Set)\\b", "\\[\\s*\\]\\s*\\[\\s*\\]\\s*\\[");
        no(source, "4", "\\bfor\\s*\\([^;)]*:[^;)]*\\)\\s*\\{", "\\b(Double|Float|Character|Boolean|Byte|Short)\\.");
        no(source, "5", "\\bstatic\\s*\\{");
        no(source, "6", "\\b(throw|throws|try|catch|finally|synchronized|assert|volatile|transient|native)\\b",
            "\\b(equals|hashCode|toString|instanceof)\\b");
        no(source, "9", "\\bwhile\\b", "\\bfor\\s*\\(\\s*;\\s*;");
        no(source, "13", "\\b(Random|Thread|System\\.(?!arraycopy))");
        Matcher call = Pattern.compile("\\b(Math|System|Integer|Long|Arrays)\\.\\w+").matcher(source);
        while (call.find()) {
            check.isTrue("rule 4: " + call.group(), LIBRARY_CALLS.contains(call.group()));
        }
    }

    private static void methods(String source) {
        String[] lines = source.split("\n");
        Pattern head = Pattern.compile("^( {4}| {8})[\\w\\[\\]. ]*\\b\\w+\\(.*\\{$");
        int heads = 0;
        for (int i = 0; i < lines.length; i++) {
            if (head.matcher(lines[i]).matches()) {
                String end = lines[i].replaceAll("\\S.*", "") + "}";
                int to = i;
                while (!lines[to].equals(end)) {
                    to++;
                }
                heads++;
                check.isTrue("rule 11: lines of " + lines[i], to - i < 60);
            }
        }
        check.isTrue("methods were found", heads > 100);
    }

    private static void classes() {
        List<Class<?>> all = new ArrayList<>(List.of(HollowedByFire.class.getDeclaredClasses()));
        check.isTrue("rule 11: classes", all.size() + 1 <= 12);
        all.add(HollowedByFire.class);
        for (Class<?> c : all) {
            check.isTrue("rule 2: no class inside of " + c, c == HollowedByFire.class || c.getDeclaredClasses().length == 0);
            int fields = 0;
            for (Field f : c.getDeclaredFields()) {
                boolean isStatic = Modifier.isStatic(f.getModifiers());
                fields += isStatic ? 0 : 1;
                check.isTrue("rule 5: " + f, !isStatic || Modifier.isFinal(f.getModifiers()));
                check.isTrue("rule 5: " + f, !isStatic || f.getType().isPrimitive() || f.getType() == String.class
                    || f.getType() == int[].class);
            }
            check.isTrue("rule 11: fields of " + c, fields <= 20);
            for (Method m : c.getDeclaredMethods()) {
                check.isTrue("rule 11: parameters of " + m, m.getParameterCount() <= 7);
            }
        }
    }

    public static void main(String[] args) throws IOException {
        String source = Files.readString(SOURCE, StandardCharsets.ISO_8859_1);
        check.isTrue("rule 4: signs 1 to 127 alone", source.chars().allMatch(c -> c > 0 && c < 128));
        String bare = bare(source);
        words(bare);
        methods(bare);
        classes();
        check.end();
    }
}
