import java.nio.file.Files;
import java.nio.file.Path;
import java.util.regex.Matcher;
import java.util.regex.Pattern;

/** README.md tells the truth: its examples, as one run, answer what stands behind them, and it names every call. */
public final class ReadmeRun {
  private static final Pattern BLOCK = Pattern.compile("```java\n(.*?)```", Pattern.DOTALL);
  private static final Pattern CALL = Pattern.compile("t\\.(\\w+)\\(([^)]*)\\);\\s+// ([-\\w]+)(:.*)?");
  private static final String MAKING = "CoalHoles t = new CoalHoles();";

  private static final Due d = new Due();

  public static void main(String[] args) throws Exception {
    String readme = Files.readString(Path.of("README.md"));
    Trial t = new Trial(d);
    int calls = 0;
    Matcher blocks = BLOCK.matcher(readme);
    while (blocks.find()) {
      for (String line : blocks.group(1).split("\n")) {
        Matcher call = CALL.matcher(line);
        if (call.matches()) {
          calls++;
          t.due(number(call.group(3)), call.group(1), numbers(call.group(2)));
        } else {
          d.holds("a call with its answer: " + line, line.equals(MAKING));
        }
      }
    }
    d.holds("there are examples", calls > 0);
    for (String name : Calls.OF_PROGRAM.names()) {
      d.holds("README.md names " + name, readme.contains("`" + name + "`"));
    }
    d.end();
  }

  private static int[] numbers(String row) throws Exception {
    String[] words = row.isBlank() ? new String[0] : row.split(",\\s*");
    int[] numbers = new int[words.length];
    for (int i = 0; i < words.length; i++) {
      numbers[i] = number(words[i]);
    }
    return numbers;
  }

  /** A number, or a constant of the class by its name. */
  private static int number(String word) throws Exception {
    return word.matches("[A-Z]+") ? CoalHoles.class.getField(word).getInt(null) : Integer.decode(word);
  }
}
