import java.util.List;

/**
 * Compares the class with a slow reference that is written straight from the document: slices
 * and pieces instead of bits, and all assignments tried one by one instead of a search.
 */
public final class ReferenceTests {
  private static int wrong = 0;
  private static int compared = 0;
  /** How many problems had a model with 0 to 3 ones, no model, inconsistent equations. */
  private static final int[] models = new int[6];

  /**
   * A loaded problem that takes any number of questions: the document promises nothing behind the
   * 512th call of an object, so a new one takes its place then.
   */
  static final class Asked {
    private final String text;
    private SliceSolver solver;
    private int calls = 0;

    Asked(String text) {
      this.text = text;
      renew();
    }

    SliceSolver ask() {
      if (calls == 512) renew();
      calls++;
      return solver;
    }

    private void renew() {
      solver = new SliceSolver();
      type(solver, text);
      solver.load();
      calls = text.length() + 1;
    }
  }

  // ---- comparing

  private static String what = "";

  static void due(String call, int got, int want) {
    compared++;
    if (got != want && wrong++ < 20) {
      System.out.println(call + " answered " + got + ", due is " + want + "; " + what);
    }
  }

  static void compareAll(Asked x, Reference.State state, boolean deep) {
    Reference.Slicing slicing = new Reference.Slicing(state);
    compareSlices(x, slicing);
    compareConflicts(x, slicing);
    compareFixed(x, slicing);
    compareMarks(x, state);
    if (deep) compareModel(x, slicing);
    if (Reference.bitsOf(state) <= 9) compareSolutions(x, slicing);
  }

  static void compareSlices(Asked x, Reference.Slicing slicing) {
    Reference.State state = slicing.state;
    due("equationCount", x.ask().equationCount(), state.equations.size());
    due("disequationCount", x.ask().disequationCount(), state.disequations.size());
    for (int v = 0; v < 8; v++) {
      due("width", x.ask().width(v), state.widths[v]);
      due("sliceCount", x.ask().sliceCount(v), slicing.count(v));
      for (int s = -1; s <= slicing.count(v); s++) {
        boolean is = s >= 0 && s < slicing.count(v);
        due("sliceStart", x.ask().sliceStart(v, s), is ? slicing.start(v, s) : -1);
        due("sliceWidth", x.ask().sliceWidth(v, s), is ? slicing.end(v, s) - slicing.start(v, s) : -1);
        due("representative", x.ask().representative(v, s), is ? slicing.classOf.get(16 * v + s) : -1);
      }
    }
    due("classCount", x.ask().classCount(), slicing.classes.size());
  }

  static void compareConflicts(Asked x, Reference.Slicing slicing) {
    due("isConsistent", x.ask().isConsistent(), slicing.consistent ? 1 : 0);
    due("firstConflict", x.ask().firstConflict(), Reference.firstConflict(slicing.state));
    due("conflictSet", x.ask().conflictSet(), Reference.conflictSet(slicing.state));
  }

  static void compareFixed(Asked x, Reference.Slicing slicing) {
    due("freeBits", x.ask().freeBits(), slicing.consistent ? slicing.freeBits().size() : -2);
    for (int v = 0; v < 8; v++) {
      for (int bit = -1; bit <= slicing.state.widths[v]; bit++) {
        boolean is = bit >= 0 && bit < slicing.state.widths[v];
        int want = !is ? -1 : !slicing.consistent ? -2 : slicing.fixed(v, bit);
        due("fixedBit", x.ask().fixedBit(v, bit), is && want == -1 ? -9 : want);
      }
    }
  }

  /** Also for problems whose solutions are too many to be tried. */
  static void compareMarks(Asked x, Reference.State state) {
    int[] marks = Reference.marks(state.equations);
    due("isConsistent by marks", x.ask().isConsistent(), marks[Reference.ZERO] == marks[Reference.ONE] ? 0 : 1);
    for (int a = 0; a < Reference.ZERO; a++) {
      for (int b = 0; b < Reference.ZERO; b++) {
        boolean is = a % 16 < state.widths[a / 16] && b % 16 < state.widths[b / 16];
        if (is) due("compareBits by marks", x.ask().compareBits(a / 16, a % 16, b / 16, b % 16), Reference.compared(marks, a, b));
      }
    }
    for (int d = 0; d < state.disequations.size(); d++) {
      due("isImplied by marks", x.ask().isImplied(d), Reference.implied(state, d));
    }
  }

  static void compareModel(Asked x, Reference.Slicing slicing) {
    List<int[]> ones = Reference.chosen(slicing);
    int[] values = ones == null ? null : slicing.valuesWith(ones);
    models[!slicing.consistent ? 5 : ones == null ? 4 : ones.size()]++;
    due("isSatisfiable", x.ask().isSatisfiable(), ones == null ? 0 : 1);
    due("oneBits", x.ask().oneBits(), ones == null ? -9 : ones.size());
    for (int v = 0; v < 8; v++) due("value", x.ask().value(v), ones == null ? -9 : values[v]);
  }

  static void compareSolutions(Asked x, Reference.Slicing slicing) {
    Reference.State state = slicing.state;
    List<int[]> all = Reference.solutions(state);
    due("isConsistent by solutions", x.ask().isConsistent(), all.isEmpty() ? 0 : 1);
    boolean model = false;
    for (int[] values : all) model |= Reference.isModel(state, values);
    due("isSatisfiable by solutions", x.ask().isSatisfiable(), model ? 1 : 0);
    for (int d = -1; d <= state.disequations.size(); d++) {
      boolean is = d >= 0 && d < state.disequations.size();
      boolean implied = true;
      for (int[] values : all) implied &= !is || !Reference.same(state.disequations.get(d), values);
      due("isImplied", x.ask().isImplied(d), !is ? -1 : all.isEmpty() ? -2 : implied ? 1 : 0);
    }
    for (int v = 0; v < 8; v++) {
      for (int w = 0; w < 8; w++) {
        for (int i = 0; i <= state.widths[v]; i++) {
          for (int j = 0; j <= state.widths[w]; j++) compareTwo(x, state, all, new int[] {v, i, w, j});
        }
      }
    }
  }

  static void compareTwo(Asked x, Reference.State state, List<int[]> all, int[] q) {
    int got = x.ask().compareBits(q[0], q[1], q[2], q[3]);
    if (q[1] == state.widths[q[0]] || q[3] == state.widths[q[2]]) { due("compareBits", got, -1); return; }
    boolean equal = false;
    boolean unequal = false;
    for (int[] values : all) {
      boolean same = (values[q[0]] >> q[1] & 1) == (values[q[2]] >> q[3] & 1);
      equal |= same;
      unequal |= !same;
    }
    due("compareBits", got, all.isEmpty() ? -2 : equal && unequal ? 2 : equal ? 1 : 0);
  }

  static void type(SliceSolver x, String text) {
    for (int i = 0; i < text.length(); i++) due("append", x.append(text.charAt(i)), i + 1);
  }

  // ---- the rounds

  static void texts(int rounds) {
    int[] seen = new int[2];
    for (int i = 0; i < rounds; i++) {
      String text = Problems.randomProblem(1 + Problems.random(5), 1 + Problems.random(16),
          Problems.random(11), Problems.random(4));
      if (i % 3 > 0) text = Problems.spoil(text);
      what = text;
      SliceSolver x = new SliceSolver();
      type(x, text);
      int want = Reference.loadDue(text, new Reference.State[1]);
      seen[want < 0 ? 0 : 1]++;
      due("load", x.load(), want);
      due("clearText", x.clearText(), want < 0 ? text.length() : 0);
    }
    if (Math.min(seen[0], seen[1]) < rounds / 20) due("variety of texts", seen[0], seen[1]);
  }

  static void problems(int rounds, int variables, int most, int disequations, boolean deep) {
    for (int i = 0; i < rounds; i++) {
      int count = 1 + Problems.random(variables);
      problem(Problems.randomProblem(count, 1 + Problems.random(most), Problems.random(8), disequations), deep);
    }
  }

  static void problem(String text, boolean deep) {
    what = text;
    SliceSolver x = new SliceSolver();
    type(x, text);
    Reference.State[] state = new Reference.State[1];
    due("load", x.load(), Reference.loadDue(text, state));
    if (state[0] != null) compareAll(new Asked(text), state[0], deep);
  }

  public static void main(String[] args) {
    texts(6000);
    problems(1500, 3, 3, 3, true);
    problems(600, 5, 5, 3, true);
    problems(1500, 8, 16, 2, false);
    problems(100, 8, 16, 1, true);
    for (int i = 0; i < 1500; i++) problem(Problems.unequalProblem(), true);
    for (int n : models) if (n < 20) due("variety of models", n, 20);
    System.out.println(wrong == 0 ? compared + " answers are as due" : wrong + " answers are not as due");
    if (wrong != 0) System.exit(1);
  }
}
