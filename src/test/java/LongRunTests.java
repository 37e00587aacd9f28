import java.util.ArrayList;
import java.util.Arrays;
import java.util.List;

/** Runs of 512 random calls, as many as an object is promised for, each answer compared with the reference. */
public final class LongRunTests {
  private static final String[] QUESTIONS = {"width", "equationCount", "disequationCount", "sliceCount", "sliceStart",
      "sliceWidth", "representative", "classCount", "isConsistent", "firstConflict", "conflictSet", "fixedBit",
      "compareBits", "freeBits", "isSatisfiable", "oneBits", "value", "isImplied", "undoDepth"};
  /** The reference tries all sets of free bits, which takes too long if there are more. */
  private static final int MOST_FREE_BITS = 20;
  private static final int MOST_CALLS = 512;
  private static final int MOST_SAVED = 6;

  private final Run run = new Run();
  private String text = "";
  private Reference.State state = new Reference.State();
  private Reference.Slicing slicing = new Reference.Slicing(state);
  private List<int[]> ones = List.of();
  private final List<Reference.State> saved = new ArrayList<>();
  private final Reference.State[] slots = new Reference.State[2];

  public static void main(String[] args) {
    for (int i = 0; i < 600; i++) {
      Run.sentence("An object is used for at most 512 calls after it has been made; run " + i);
      new LongRunTests().go(i % 3 == 0 ? 16 : 3);
    }
    Run.end();
  }

  private void go(int mostWidth) {
    while (run.calls() < MOST_CALLS) {
      int choice = Problems.random(100);
      if (run.calls() == 0 || choice < 5) typeProblem(mostWidth);
      else if (choice < 9) load();
      else if (choice < 13) removeEquation();
      else if (choice < 16) removeDisequation();
      else if (choice < 20) undo();
      else if (choice < 23) save();
      else if (choice < 25) restore();
      else if (choice < 26) clearText();
      else ask(QUESTIONS[Problems.random(QUESTIONS.length)]);
    }
  }

  // ---- changes

  /** Mostly a whole problem and its load(); with little room left or by chance, a part of one alone. */
  private void typeProblem(int mostWidth) {
    String problem = Problems.randomProblem(1 + Problems.random(6), 1 + Problems.random(mostWidth),
        Problems.random(10), Problems.random(4));
    if (Problems.random(4) == 0) problem = Problems.spoil(problem);
    if (Problems.random(3) == 0) problem = problem.substring(0, Problems.random(problem.length() + 1));
    for (int i = 0; i < problem.length() && run.calls() < MOST_CALLS; i++) append(problem.charAt(i));
    if (Problems.random(9) == 0 && run.calls() < MOST_CALLS) run.due(Run.INVALID, "append", wild());
    if (run.calls() < MOST_CALLS) load();
  }

  private void append(char sign) {
    if (text.length() == 200) {
      run.due(Run.FULL, "append", sign);
    } else {
      text += sign;
      run.due(text.length(), "append", sign);
    }
  }

  private void clearText() {
    run.due(text.length(), "clearText");
    text = "";
  }

  private void load() {
    Reference.State[] into = new Reference.State[1];
    run.due(Reference.loadDue(text, into), "load");
    if (into[0] != null) {
      text = "";
      remember();
      become(into[0]);
    } else if (Problems.random(3) > 0 && run.calls() < MOST_CALLS) {
      clearText();
    }
  }

  private void removeEquation() {
    int number = number(state.equations.size());
    if (number < 0 || number >= state.equations.size()) {
      run.due(Run.INVALID, "removeEquation", number);
      return;
    }
    remember();
    Reference.State less = state.copy();
    less.equations.remove(number);
    become(less);
    run.due(less.equations.size(), "removeEquation", number);
  }

  private void removeDisequation() {
    int number = number(state.disequations.size());
    if (number < 0 || number >= state.disequations.size()) {
      run.due(Run.INVALID, "removeDisequation", number);
      return;
    }
    remember();
    Reference.State less = state.copy();
    less.disequations.remove(number);
    become(less);
    run.due(less.disequations.size(), "removeDisequation", number);
  }

  private void undo() {
    if (saved.isEmpty()) {
      run.due(Run.ILLEGAL, "undo");
    } else {
      become(saved.remove(saved.size() - 1));
      run.due(saved.size(), "undo");
    }
  }

  private void save() {
    int slot = number(2);
    boolean is = slot == 0 || slot == 1;
    run.due(is ? state.statements() : Run.INVALID, "save", slot);
    if (is) slots[slot] = state.copy();
  }

  private void restore() {
    int slot = number(2);
    boolean is = slot == 0 || slot == 1;
    if (is && slots[slot] != null) {
      saved.clear();
      become(slots[slot].copy());
      run.due(state.statements(), "restore", slot);
    } else {
      run.due(is ? Run.ILLEGAL : Run.INVALID, "restore", slot);
    }
  }

  private void remember() {
    saved.add(state.copy());
    if (saved.size() > MOST_SAVED) saved.remove(0);
  }

  private void become(Reference.State next) {
    state = next;
    slicing = new Reference.Slicing(next);
    ones = isSmall() ? Reference.chosen(slicing) : null;
  }

  /** Tells whether the reference knows the chosen model. */
  private boolean isSmall() {
    return !slicing.consistent || slicing.freeBits().size() <= MOST_FREE_BITS;
  }

  // ---- questions

  private void ask(String name) {
    switch (name) {
      case "width", "sliceCount", "value" -> askVariable(name, number(8));
      case "sliceStart", "sliceWidth", "representative" -> askSlice(name, declared());
      case "fixedBit" -> askBit(declared());
      case "compareBits" -> askBits(declared(), declared());
      case "isImplied" -> askDisequation(number(state.disequations.size()));
      case "isSatisfiable" -> askModel(name, ones == null ? 0 : 1);
      case "oneBits" -> askModel(name, ones == null ? Run.NONE : ones.size());
      default -> run.due(plain(name), name);
    }
  }

  private int plain(String name) {
    return switch (name) {
      case "equationCount" -> state.equations.size();
      case "disequationCount" -> state.disequations.size();
      case "classCount" -> slicing.classes.size();
      case "isConsistent" -> slicing.consistent ? 1 : 0;
      case "firstConflict" -> Reference.firstConflict(state);
      case "conflictSet" -> Reference.conflictSet(state);
      case "freeBits" -> slicing.consistent ? slicing.freeBits().size() : Run.ILLEGAL;
      case "undoDepth" -> saved.size();
      default -> throw new IllegalArgumentException(name);
    };
  }

  private void askModel(String name, int want) {
    if (isSmall()) run.due(want, name);
  }

  private void askVariable(String name, int v) {
    if (v < 0 || v > 7) {
      run.due(Run.INVALID, name, v);
    } else if (name.equals("value")) {
      askModelOf(v);
    } else {
      run.due(name.equals("width") ? state.widths[v] : slicing.count(v), name, v);
    }
  }

  private void askModelOf(int v) {
    if (isSmall()) run.due(ones == null ? Run.NONE : slicing.valuesWith(ones)[v], "value", v);
  }

  private void askSlice(String name, int v) {
    int s = number(v < 0 || v > 7 ? 1 : slicing.count(v));
    boolean is = v >= 0 && v < 8 && s >= 0 && s < slicing.count(v);
    int want = !is ? Run.INVALID
        : name.equals("sliceStart") ? slicing.start(v, s)
        : name.equals("sliceWidth") ? slicing.end(v, s) - slicing.start(v, s)
        : slicing.classOf.get(16 * v + s);
    run.due(want, name, v, s);
  }

  private void askBit(int v) {
    int bit = bit(v);
    int fixed = !is(v, bit) ? Run.INVALID : !slicing.consistent ? Run.ILLEGAL : slicing.fixed(v, bit);
    run.due(is(v, bit) && fixed == -1 ? Run.NONE : fixed, "fixedBit", v, bit);
  }

  private void askBits(int v, int w) {
    int a = bit(v);
    int b = bit(w);
    int want = !is(v, a) || !is(w, b) ? Run.INVALID
        : Reference.compared(Reference.marks(state.equations), 16 * v + a, 16 * w + b);
    run.due(want, "compareBits", v, a, w, b);
  }

  private void askDisequation(int d) {
    boolean is = d >= 0 && d < state.disequations.size();
    run.due(is ? Reference.implied(state, d) : Run.INVALID, "isImplied", d);
  }

  private boolean is(int v, int bit) {
    return v >= 0 && v < 8 && bit >= 0 && bit < state.widths[v];
  }

  // ---- arguments

  private static int wild() {
    int[] wild = {-1, -2, Integer.MIN_VALUE, Integer.MAX_VALUE, 256, 1 << 16};
    return wild[Problems.random(wild.length)];
  }

  /** Mostly one of 0 to count - 1, at times the first behind them or a number far away. */
  private static int number(int count) {
    int way = Problems.random(12);
    if (way == 0) return wild();
    return way == 1 || count == 0 ? count : Problems.random(count);
  }

  private int declared() {
    int[] all = new int[8];
    int n = 0;
    for (int v = 0; v < 8; v++) if (state.widths[v] > 0) all[n++] = v;
    return n == 0 || Problems.random(9) == 0 ? number(8) : Arrays.copyOf(all, n)[Problems.random(n)];
  }

  private int bit(int v) {
    return number(v < 0 || v > 7 ? 1 : state.widths[v]);
  }
}
