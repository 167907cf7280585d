import java.io.IOException;
import java.nio.charset.StandardCharsets;
import java.nio.file.Files;
import java.nio.file.Path;
import java.util.regex.Matcher;
import java.util.regex.Pattern;

/** README.md shows calls with their answers: one run, in which each answers just so. */
public final class ReadmeTest {
    private static final Path README = Path.of("README.md");
    private static final Pattern CALL = Pattern.compile("x\\.(\\w+\\([^)]*\\));\\s*// (-?\\d+|NO)\\b.*");

    private static String calls(Check check, String readme) {
        StringBuilder run = new StringBuilder();
        for (String line : readme.split("\n")) {
            if (line.startsWith("x.")) {
                Matcher m = CALL.matcher(line);
                boolean isTold = m.matches();
                check.isTrue("a call with its answer: " + line, isTold);
                // Script writes a long without an L
                run.append(isTold ? m.group(1).replaceAll("(0x\\w+)L", "$1") + " " + m.group(2) : "").append('\n');
            }
        }
        return run.toString();
    }

    public static void main(String[] args) throws IOException {
        Check check = new Check("ReadmeTest");
        String run = calls(check, Files.readString(README, StandardCharsets.UTF_8));
        check.isTrue("there are calls", !run.isBlank());
        new Script(check).run("README.md", run);
        check.end();
    }
}
