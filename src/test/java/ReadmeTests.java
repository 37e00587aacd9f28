import java.io.IOException;
import java.nio.file.Files;
import java.nio.file.Path;
import java.util.regex.Matcher;
import java.util.regex.Pattern;

/** The example of README.md gives the answers that stand beside its calls. */
public final class ReadmeTests {
  private static final Pattern TEXT = Pattern.compile("String text = \"([^\"]*)\";");
  private static final Pattern CALL = Pattern.compile("^solver\\.(\\w+)\\(([-0-9, ]*)\\); +// (-?[0-9]+)\\b.*");
  private static final int LEAST_CALLS = 15;

  public static void main(String[] args) throws IOException {
    String readme = Files.readString(Path.of("README.md"));
    Run.sentence("README.md says how to use the class");
    Matcher text = TEXT.matcher(readme);
    if (text.find()) example(readme, new Run().type(text.group(1)));
    else Run.fault("README.md has no example");
    Run.end();
  }

  private static void example(String readme, Run run) {
    int calls = 0;
    for (String line : readme.split("\n")) {
      Matcher call = CALL.matcher(line);
      if (call.matches()) {
        calls++;
        run.due(Integer.parseInt(call.group(3)), call.group(1), numbers(call.group(2)));
      } else if (line.startsWith("solver.")) {
        Run.fault("a line of the example without an answer: " + line);
      }
    }
    if (calls < LEAST_CALLS) Run.fault("only " + calls + " calls of the example were found");
  }

  private static int[] numbers(String list) {
    if (list.isEmpty()) return new int[0];
    String[] parts = list.split(", ");
    int[] numbers = new int[parts.length];
    for (int i = 0; i < parts.length; i++) numbers[i] = Integer.parseInt(parts[i]);
    return numbers;
  }
}
