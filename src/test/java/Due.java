import java.io.IOException;
import java.nio.file.Files;
import java.nio.file.Path;

/** Prints and counts the answers that are not as due, each beside the sentence of the document that asks for it. */
final class Due {
  static final int BAD = -1000000001, NO = -1000000002, FULL = -1000000003, NONE = -1000000005;
  static final int NOTHING = -1000000011, KIND = -1000000012, INDEX = -1000000013, SIZE = -1000000014;
  static final int LEAST = Integer.MIN_VALUE, MOST = Integer.MAX_VALUE;

  private static final Path DOCUMENT = Path.of("../shared/DOC.md");

  private final String document = Files.exists(DOCUMENT) ? folded(read(DOCUMENT)) : null;
  private String asked = "";
  private int wrong;

  private static String read(Path path) {
    try {
      return Files.readString(path);
    } catch (IOException e) {
      throw new IllegalStateException(path + " can't be read", e);
    }
  }

  private static String folded(String text) {
    return text.replaceAll("\\s+", " ");
  }

  /** What follows is asked for by this sentence, which must stand in the document to the letter. */
  void says(int promise, String sentence) {
    asked = "promise " + promise + ", '" + sentence + "': ";
    if (document != null && !document.contains(folded(sentence))) {
      report("does not stand in the document");
    }
  }

  void answer(String call, int got, int want) {
    if (got != want) {
      report(call + " answered " + got + ", due is " + want);
    }
  }

  void holds(String what, boolean held) {
    if (!held) {
      report("does not hold: " + what);
    }
  }

  private void report(String text) {
    wrong++;
    System.out.println(asked + text);
  }

  void end() {
    System.out.println(wrong == 0 ? "all answers are as due" : wrong + " answers are not as due");
    if (wrong != 0) {
      System.exit(1);
    }
  }
}
