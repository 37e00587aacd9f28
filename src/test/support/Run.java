/**
 * A run of calls on a new SliceSolver, which tells every answer that is not the one that is due.
 * The document promises nothing behind the 512th call of an object, so a longer run is a fault too.
 */
final class Run {
  static final int INVALID = -1;
  static final int ILLEGAL = -2;
  static final int FULL = -3;
  static final int NONE = -9;
  private static final int MOST_CALLS = 512;
  private static final int MOST_LINES = 40;

  private static String sentence = "";
  private static int cases = 0;
  private static int answers = 0;
  private static int wrong = 0;

  private final SliceSolver solver = new SliceSolver();
  private final StringBuilder calls = new StringBuilder();
  private int count = 0;

  /** Names the sentence of the document that the next runs are about. */
  static void sentence(String text) {
    sentence = text;
    cases++;
  }

  static void end() {
    System.out.println(cases + " cases, " + answers + " answers: "
        + (wrong == 0 ? "all are as due" : wrong + " are not as due"));
    if (wrong != 0) System.exit(1);
  }

  static void fault(String text) {
    wrong++;
    if (wrong <= MOST_LINES) System.out.println("\"" + sentence + "\": " + text);
  }

  static String times(String text, int n) {
    return text.repeat(Math.max(n, 0));
  }

  /** A run that has loaded the text. */
  static Run of(String text) {
    Run run = new Run().type(text);
    if (run.call("load") < 0) fault("the text is refused: " + text);
    return run;
  }

  /** The text is a valid problem with so many statements. */
  static void valid(String text, int statements) {
    new Run().type(text).due(statements, "load").due(0, "clearText").due(1, "undoDepth");
  }

  /** The text is refused at the position, and it stays. */
  static void refused(String text, int position) {
    new Run().type(text).due(-10 - position, "load").due(text.length(), "clearText").due(0, "undoDepth");
  }

  int calls() {
    return count;
  }

  Run type(String text) {
    for (int i = 0; i < text.length(); i++) {
      if (call("append", text.charAt(i)) < 1) fault("a character is refused; run: " + calls);
    }
    return this;
  }

  Run due(int want, String name, int... arguments) {
    int got = call(name, arguments);
    answers++;
    if (got != want) fault("answered " + got + ", due is " + want + "; run: " + calls);
    return this;
  }

  int call(String name, int... arguments) {
    count++;
    if (count == MOST_CALLS + 1) fault("the run has too many calls: " + calls);
    note(name, arguments);
    return answer(name, arguments);
  }

  private void note(String name, int[] arguments) {
    boolean isPlain = name.equals("append") && arguments[0] >= 32 && arguments[0] < 127;
    if (isPlain) {
      calls.append((char) arguments[0]);
      return;
    }
    calls.append(' ').append(name).append('(');
    for (int i = 0; i < arguments.length; i++) calls.append(i == 0 ? "" : ", ").append(arguments[i]);
    calls.append(") ");
  }

  private int answer(String name, int[] a) {
    return switch (name) {
      case "append" -> solver.append(a[0]);
      case "clearText" -> solver.clearText();
      case "load" -> solver.load();
      case "removeEquation" -> solver.removeEquation(a[0]);
      case "removeDisequation" -> solver.removeDisequation(a[0]);
      case "width" -> solver.width(a[0]);
      case "equationCount" -> solver.equationCount();
      case "disequationCount" -> solver.disequationCount();
      case "sliceCount" -> solver.sliceCount(a[0]);
      case "sliceStart" -> solver.sliceStart(a[0], a[1]);
      case "sliceWidth" -> solver.sliceWidth(a[0], a[1]);
      case "representative" -> solver.representative(a[0], a[1]);
      case "classCount" -> solver.classCount();
      case "isConsistent" -> solver.isConsistent();
      case "firstConflict" -> solver.firstConflict();
      case "conflictSet" -> solver.conflictSet();
      case "fixedBit" -> solver.fixedBit(a[0], a[1]);
      case "compareBits" -> solver.compareBits(a[0], a[1], a[2], a[3]);
      case "freeBits" -> solver.freeBits();
      case "isSatisfiable" -> solver.isSatisfiable();
      case "oneBits" -> solver.oneBits();
      case "value" -> solver.value(a[0]);
      case "isImplied" -> solver.isImplied(a[0]);
      case "undo" -> solver.undo();
      case "undoDepth" -> solver.undoDepth();
      case "save" -> solver.save(a[0]);
      case "restore" -> solver.restore(a[0]);
      default -> throw new IllegalArgumentException(name);
    };
  }
}
