import java.io.IOException;
import java.nio.file.Files;
import java.nio.file.Path;
import java.util.Arrays;
import java.util.regex.Matcher;
import java.util.regex.Pattern;

/** The example in README.md answers what it says there, so that who reads it is not led astray. */
public final class ReadmeTest {
    private static final Pattern TEXT = Pattern.compile("for \\(char c : \"([^\"]*)\"");
    private static final Pattern CALL = Pattern.compile("(?m)^b\\.(\\w+)\\(([^)]*)\\);\\s*// (-?\\d+):");

    public static void main(String[] args) throws IOException {
        Check check = new Check();
        String readme = Files.readString(Path.of("README.md"));
        Matcher text = TEXT.matcher(readme);
        check.due("an example with a text", text.find() ? 1 : 0, 1);
        ThoughtBalloon b = new ThoughtBalloon();
        Check.type(b, text.group(1));
        int calls = 0;
        Matcher call = CALL.matcher(readme);
        while (call.find()) {
            long got = Bounds.ask(b, call.group(1), numbers(call.group(2)));
            check.due(call.group(), got, Long.parseLong(call.group(3)));
            calls++;
        }
        check.due("calls whose answers are told", calls > 3 ? 1 : 0, 1);
        check.end();
    }

    private static int[] numbers(String list) {
        String[] words = list.isBlank() ? new String[0] : list.split(", *");
        return Arrays.stream(words).mapToInt(Integer::parseInt).toArray();
    }
}
