import java.io.IOException;
import java.nio.file.Files;
import java.nio.file.Path;
import java.util.regex.Matcher;
import java.util.regex.Pattern;

/** The example in README.md answers what its comments say. */
public final class ReadmeTest extends Calls {
    private static final Pattern EXAMPLE = Pattern.compile("```java\n(.*?)```", Pattern.DOTALL);
    private static final Pattern CALL = Pattern.compile("x\\.(\\w+)\\((.*?)\\); *// (?:(-?\\w+): )?.*");

    public static void main(String[] args) throws IOException {
        Matcher example = EXAMPLE.matcher(Files.readString(Path.of("README.md")));
        boolean found = example.find();
        due.is("README.md has an example", () -> found ? 1 : 0, 1);
        if (found) {
            String[] lines = example.group(1).split("\n");
            due.is(lines[0], () -> lines[0].equals("TwinWrites x = new TwinWrites();") ? 1 : 0, 1);
            TwinWrites x = new TwinWrites();
            for (int i = 1; i < lines.length; i++) {
                exampleLine(x, lines[i]);
            }
        }
        due.end("ReadmeTest");
    }

    private static void exampleLine(TwinWrites x, String line) {
        Matcher call = CALL.matcher(line);
        boolean isCall = call.matches();
        due.is("a call with a comment: " + line, () -> isCall ? 1 : 0, 1);
        if (isCall) {
            String text = (call.group(1) + " " + call.group(2).replace(",", "")).trim();
            // power() alone answers nothing.
            boolean answers = !call.group(1).equals("power");
            due.is("told is an answer: " + line, () -> call.group(3) != null ? 1 : 0, answers ? 1 : 0);
            go(x, text + (answers ? " = " + call.group(3) : ""));
        }
    }
}
