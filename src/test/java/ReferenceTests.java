import java.util.ArrayDeque;
import java.util.ArrayList;
import java.util.Arrays;
import java.util.Collections;
import java.util.HashMap;
import java.util.List;
import java.util.Map;
import java.util.TreeMap;
import java.util.TreeSet;

/**
 * Compares the class with a slow reference that is written straight from the document: slices
 * and pieces instead of bits, and all assignments tried one by one instead of a search.
 */
public final class ReferenceTests {
  private static int wrong = 0;
  private static int compared = 0;
  private static long seed = 20261117L;
  /** How many problems had a model with 0 to 3 ones, no model, inconsistent equations. */
  private static final int[] models = new int[6];

  private static int random(int bound) {
    seed = seed * 6364136223846793005L + 1442695040888963407L;
    return (int) ((seed >>> 33) % bound);
  }

  // ---- the reference: problem and text

  record Part(int variable, int high, int low, String constant) {
    int width() { return constant == null ? high - low + 1 : constant.length(); }
  }

  /** Parts are listed from the least significant one on. */
  record Statement(List<Part> left, List<Part> right) {
    List<Part> side(int i) { return i == 0 ? left : right; }
    int width() { return widthOf(left); }
  }

  static int widthOf(List<Part> term) {
    int sum = 0;
    for (Part part : term) sum += part.width();
    return sum;
  }

  static final class State {
    int[] widths = new int[8];
    List<Statement> equations = new ArrayList<>();
    List<Statement> disequations = new ArrayList<>();

    State copy() {
      State copy = new State();
      copy.widths = widths.clone();
      copy.equations = new ArrayList<>(equations);
      copy.disequations = new ArrayList<>(disequations);
      return copy;
    }

    int statements() { return equations.size() + disequations.size(); }
  }

  static final class NotAllowed extends Exception {
    private static final long serialVersionUID = 1L;
    final int position;
    NotAllowed(int position) { this.position = position; }
  }

  static final class Parser {
    final String text;
    final State state = new State();
    int at = 0;

    Parser(String text) { this.text = text; }

    String peek() {
      while (at < text.length() && text.charAt(at) == ' ') at++;
      if (at == text.length()) return "";
      int end = at + 1;
      for (String run : new String[] {"abcdefghijklmnopqrstuvwxyz", "0123456789"}) {
        if (run.indexOf(text.charAt(at)) >= 0) {
          while (end < text.length() && run.indexOf(text.charAt(end)) >= 0) end++;
        }
      }
      return text.substring(at, end);
    }

    void need(boolean allowed) throws NotAllowed {
      if (!allowed) { peek(); throw new NotAllowed(at); }
    }

    String take() { String token = peek(); at += token.length(); return token; }

    void take(String token) throws NotAllowed { need(peek().equals(token)); take(); }

    int number(int least, int most) throws NotAllowed {
      String token = peek();
      need(token.matches("0|[1-9][0-9]?"));
      int number = Integer.parseInt(token);
      need(number >= least && number <= most);
      take();
      return number;
    }

    int name(boolean declared) throws NotAllowed {
      String token = peek();
      need(token.matches("[a-h]"));
      int variable = token.charAt(0) - 'a';
      need(state.widths[variable] > 0 == declared);
      take();
      return variable;
    }

    State problem() throws NotAllowed {
      while (!peek().isEmpty()) {
        if (peek().equals("bits")) {
          take();
          int variable = name(false);
          state.widths[variable] = number(1, 16);
          take(";");
        } else {
          statement();
        }
      }
      return state;
    }

    void statement() throws NotAllowed {
      boolean negated = peek().equals("not");
      if (negated) { need(state.disequations.size() < 3); take(); }
      else need(state.equations.size() < 10);
      List<Part> left = term();
      if (peek().equals("=")) need(widthOf(left) <= 16);
      take("=");
      List<Part> right = term();
      if (peek().equals(";")) need(widthOf(left) == widthOf(right));
      take(";");
      (negated ? state.disequations : state.equations).add(new Statement(left, right));
    }

    List<Part> term() throws NotAllowed {
      List<Part> parts = new ArrayList<>();
      parts.add(part());
      while (peek().equals(".")) { take(); parts.add(part()); }
      Collections.reverse(parts);
      return parts;
    }

    Part part() throws NotAllowed {
      if (peek().equals("%")) {
        take();
        need(peek().matches("[01]{1,16}"));
        return new Part(-1, 0, 0, take());
      }
      int variable = name(true);
      int width = state.widths[variable];
      if (!peek().equals("[")) return new Part(variable, width - 1, 0, null);
      take();
      int high = number(0, width - 1);
      take(":");
      int low = number(0, high);
      take("]");
      return new Part(variable, high, low, null);
    }
  }

  // ---- the reference: cuts, pieces and classes

  static final class Slicing {
    final State state;
    final List<TreeSet<Integer>> cuts = new ArrayList<>();
    /** Slices are named by 16 times the variable plus the number. */
    final TreeMap<Integer, TreeSet<Integer>> neighbours = new TreeMap<>();
    final Map<Integer, TreeSet<String>> constants = new HashMap<>();
    final TreeMap<Integer, TreeSet<Integer>> classes = new TreeMap<>();
    final Map<Integer, Integer> classOf = new HashMap<>();
    boolean consistent = true;

    Slicing(State state) {
      this.state = state;
      for (int v = 0; v < 8; v++) cuts.add(new TreeSet<>());
      for (Statement e : state.equations) {
        for (int side = 0; side < 2; side++) for (Part part : e.side(side)) cutPart(part);
      }
      boolean changed = true;
      while (changed) {
        changed = false;
        for (Statement e : state.equations) {
          for (int p = 1; p < e.width(); p++) {
            if (!marked(e.left(), p) && !marked(e.right(), p)) continue;
            changed |= cutAt(e.left(), p);
            changed |= cutAt(e.right(), p);
          }
        }
      }
      for (int v = 0; v < 8; v++) {
        for (int s = 0; s < count(v); s++) {
          neighbours.put(16 * v + s, new TreeSet<>());
          constants.put(16 * v + s, new TreeSet<>());
        }
      }
      for (Statement e : state.equations) pieces(e);
      for (int slice : neighbours.keySet()) if (!classOf.containsKey(slice)) gather(slice);
    }

    void cutPart(Part part) {
      if (part.constant() != null) return;
      int width = state.widths[part.variable()];
      for (int p : new int[] {part.low(), part.high() + 1}) {
        if (p >= 1 && p <= width - 1) cuts.get(part.variable()).add(p);
      }
    }

    /** The part with bits p - 1 and p of the term, or null if they belong to different parts. */
    static Part around(List<Part> term, int p) {
      int start = 0;
      for (Part part : term) {
        if (p > start && p < start + part.width()) return part;
        start += part.width();
      }
      return null;
    }

    static int offset(List<Part> term, int p) {
      int start = 0;
      for (Part part : term) {
        if (p < start + part.width()) return p - start;
        start += part.width();
      }
      return -1;
    }

    boolean marked(List<Part> term, int p) {
      Part part = around(term, p);
      if (part == null) return true;
      return part.constant() == null && cuts.get(part.variable()).contains(part.low() + offset(term, p));
    }

    boolean cutAt(List<Part> term, int p) {
      Part part = around(term, p);
      if (part == null || part.constant() != null) return false;
      return cuts.get(part.variable()).add(part.low() + offset(term, p));
    }

    int count(int v) { return state.widths[v] == 0 ? 0 : cuts.get(v).size() + 1; }

    int start(int v, int s) { return s == 0 ? 0 : new ArrayList<>(cuts.get(v)).get(s - 1); }

    int end(int v, int s) { return s == count(v) - 1 ? state.widths[v] : start(v, s + 1); }

    void pieces(Statement e) {
      int from = 0;
      for (int p = 1; p <= e.width(); p++) {
        if (p < e.width() && !marked(e.left(), p) && !marked(e.right(), p)) continue;
        Object left = piece(e.left(), from, p);
        Object right = piece(e.right(), from, p);
        if (left instanceof Integer a && right instanceof Integer b) {
          neighbours.get(a).add(b);
          neighbours.get(b).add(a);
        } else if (left instanceof Integer a) {
          constants.get(a).add((String) right);
        } else if (right instanceof Integer b) {
          constants.get(b).add((String) left);
        } else if (!left.equals(right)) {
          consistent = false;
        }
        from = p;
      }
    }

    Object piece(List<Part> term, int from, int to) {
      int start = 0;
      for (Part part : term) {
        if (from < start + part.width()) {
          int low = from - start;
          int high = to - start;
          if (part.constant() != null) {
            int n = part.constant().length();
            return part.constant().substring(n - high, n - low);
          }
          for (int s = 0; s < count(part.variable()); s++) {
            if (start(part.variable(), s) == part.low() + low) {
              if (end(part.variable(), s) != part.low() + high) throw new IllegalStateException("no slice");
              return 16 * part.variable() + s;
            }
          }
          throw new IllegalStateException("no slice");
        }
        start += part.width();
      }
      throw new IllegalStateException("no part");
    }

    /** Slices are met in rising order, so the first one of a class is its representative. */
    void gather(int slice) {
      TreeSet<Integer> members = new TreeSet<>();
      TreeSet<String> values = new TreeSet<>();
      ArrayDeque<Integer> open = new ArrayDeque<>(List.of(slice));
      while (!open.isEmpty()) {
        int next = open.remove();
        if (!members.add(next)) continue;
        classOf.put(next, slice);
        values.addAll(constants.get(next));
        open.addAll(neighbours.get(next));
      }
      if (values.size() > 1) consistent = false;
      for (int member : members) constants.put(member, values);
      classes.put(slice, members);
    }

    /** The free bits in their order: 16 times the class plus the position. */
    List<int[]> freeBits() {
      List<int[]> bits = new ArrayList<>();
      for (int c : classes.keySet()) {
        if (!constants.get(c).isEmpty()) continue;
        for (int p = 0; p < end(c / 16, c % 16) - start(c / 16, c % 16); p++) bits.add(new int[] {c, p});
      }
      return bits;
    }

    int sliceOf(int v, int bit) {
      int s = 0;
      while (end(v, s) <= bit) s++;
      return s;
    }

    /** -1 if the class of the bit's slice is not fixed. */
    int fixed(int v, int bit) {
      int s = sliceOf(v, bit);
      TreeSet<String> values = constants.get(16 * v + s);
      if (values.isEmpty()) return -1;
      String value = values.first();
      return value.charAt(value.length() - 1 - (bit - start(v, s))) - '0';
    }

    int[] valuesWith(List<int[]> ones) {
      int[] values = new int[8];
      for (int v = 0; v < 8; v++) {
        for (int bit = 0; bit < state.widths[v]; bit++) {
          int s = sliceOf(v, bit);
          boolean one = fixed(v, bit) == 1;
          for (int[] free : ones) {
            one |= free[0] == classOf.get(16 * v + s) && free[1] == bit - start(v, s);
          }
          if (one) values[v] |= 1 << bit;
        }
      }
      return values;
    }
  }

  static int valueOf(List<Part> term, int[] values) {
    int sum = 0;
    int at = 0;
    for (Part part : term) {
      int bits = part.constant() != null ? Integer.parseInt(part.constant(), 2)
          : values[part.variable()] >> part.low() & (1 << part.width()) - 1;
      sum |= bits << at;
      at += part.width();
    }
    return sum;
  }

  static boolean same(Statement s, int[] values) {
    return valueOf(s.left(), values) == valueOf(s.right(), values);
  }

  static boolean isModel(State state, int[] values) {
    for (Statement e : state.equations) if (!same(e, values)) return false;
    for (Statement d : state.disequations) if (same(d, values)) return false;
    return true;
  }

  static boolean consistent(State state, int set) {
    State part = state.copy();
    part.equations.clear();
    for (int i = 0; i < state.equations.size(); i++) {
      if ((set >> i & 1) != 0) part.equations.add(state.equations.get(i));
    }
    return new Slicing(part).consistent;
  }

  // ---- the reference: models

  /** The chosen model's free ones, or null. All sets of the size are tried in their order. */
  static List<int[]> chosen(Slicing slicing) {
    if (!slicing.consistent) return null;
    List<int[]> free = slicing.freeBits();
    for (int size = 0; size <= slicing.state.disequations.size(); size++) {
      List<int[]> found = sets(slicing, free, 0, size, new ArrayList<>());
      if (found != null) return found;
    }
    return null;
  }

  static List<int[]> sets(Slicing slicing, List<int[]> free, int from, int size, List<int[]> taken) {
    if (size == 0) return isModel(slicing.state, slicing.valuesWith(taken)) ? new ArrayList<>(taken) : null;
    for (int i = from; i < free.size(); i++) {
      taken.add(free.get(i));
      List<int[]> found = sets(slicing, free, i + 1, size - 1, taken);
      if (found != null) return found;
      taken.remove(taken.size() - 1);
    }
    return null;
  }

  static int bitsOf(State state) { return Arrays.stream(state.widths).sum(); }

  /** All assignments of the declared bits that meet the equations; for few bits alone. */
  static List<int[]> solutions(State state) {
    List<int[]> all = new ArrayList<>();
    for (int n = 0; n < 1 << bitsOf(state); n++) {
      int[] values = new int[8];
      int at = 0;
      for (int v = 0; v < 8; v++) {
        values[v] = n >> at & (1 << state.widths[v]) - 1;
        at += state.widths[v];
      }
      boolean good = true;
      for (Statement e : state.equations) good &= same(e, values);
      if (good) all.add(values);
    }
    return all;
  }

  // ---- comparing

  private static String what = "";

  static void due(String call, int got, int want) {
    compared++;
    if (got != want && wrong++ < 20) {
      System.out.println(call + " answered " + got + ", due is " + want + "; " + what);
    }
  }

  static void compareAll(SliceSolver x, State state, boolean deep) {
    Slicing slicing = new Slicing(state);
    compareSlices(x, slicing);
    compareConflicts(x, slicing);
    compareFixed(x, slicing);
    if (deep) compareModel(x, slicing);
    if (bitsOf(state) <= 9) compareSolutions(x, slicing);
  }

  static void compareSlices(SliceSolver x, Slicing slicing) {
    State state = slicing.state;
    due("equationCount", x.equationCount(), state.equations.size());
    due("disequationCount", x.disequationCount(), state.disequations.size());
    for (int v = 0; v < 8; v++) {
      due("width", x.width(v), state.widths[v]);
      due("sliceCount", x.sliceCount(v), slicing.count(v));
      for (int s = -1; s <= slicing.count(v); s++) {
        boolean is = s >= 0 && s < slicing.count(v);
        due("sliceStart", x.sliceStart(v, s), is ? slicing.start(v, s) : -1);
        due("sliceWidth", x.sliceWidth(v, s), is ? slicing.end(v, s) - slicing.start(v, s) : -1);
        due("representative", x.representative(v, s), is ? slicing.classOf.get(16 * v + s) : -1);
      }
    }
    due("classCount", x.classCount(), slicing.classes.size());
  }

  static void compareConflicts(SliceSolver x, Slicing slicing) {
    State state = slicing.state;
    due("isConsistent", x.isConsistent(), slicing.consistent ? 1 : 0);
    int first = -9;
    int set = -9;
    if (!slicing.consistent) {
      first = 0;
      while (consistent(state, (2 << first) - 1)) first++;
      set = (1 << state.equations.size()) - 1;
      for (int i = 0; i < state.equations.size(); i++) {
        if (!consistent(state, set & ~(1 << i))) set &= ~(1 << i);
      }
    }
    due("firstConflict", x.firstConflict(), first);
    due("conflictSet", x.conflictSet(), set);
  }

  static void compareFixed(SliceSolver x, Slicing slicing) {
    due("freeBits", x.freeBits(), slicing.consistent ? slicing.freeBits().size() : -2);
    for (int v = 0; v < 8; v++) {
      for (int bit = -1; bit <= slicing.state.widths[v]; bit++) {
        boolean is = bit >= 0 && bit < slicing.state.widths[v];
        int want = !is ? -1 : !slicing.consistent ? -2 : slicing.fixed(v, bit);
        due("fixedBit", x.fixedBit(v, bit), is && want == -1 ? -9 : want);
      }
    }
  }

  static void compareModel(SliceSolver x, Slicing slicing) {
    List<int[]> ones = chosen(slicing);
    int[] values = ones == null ? null : slicing.valuesWith(ones);
    models[!slicing.consistent ? 5 : ones == null ? 4 : ones.size()]++;
    due("isSatisfiable", x.isSatisfiable(), ones == null ? 0 : 1);
    due("oneBits", x.oneBits(), ones == null ? -9 : ones.size());
    for (int v = 0; v < 8; v++) due("value", x.value(v), ones == null ? -9 : values[v]);
  }

  static void compareSolutions(SliceSolver x, Slicing slicing) {
    State state = slicing.state;
    List<int[]> all = solutions(state);
    due("isConsistent by solutions", x.isConsistent(), all.isEmpty() ? 0 : 1);
    boolean model = false;
    for (int[] values : all) model |= isModel(state, values);
    due("isSatisfiable by solutions", x.isSatisfiable(), model ? 1 : 0);
    for (int d = -1; d <= state.disequations.size(); d++) {
      boolean is = d >= 0 && d < state.disequations.size();
      boolean implied = true;
      for (int[] values : all) implied &= !is || !same(state.disequations.get(d), values);
      due("isImplied", x.isImplied(d), !is ? -1 : all.isEmpty() ? -2 : implied ? 1 : 0);
    }
    for (int v = 0; v < 8; v++) {
      for (int w = 0; w < 8; w++) {
        for (int i = 0; i <= state.widths[v]; i++) {
          for (int j = 0; j <= state.widths[w]; j++) compareTwo(x, state, all, new int[] {v, i, w, j});
        }
      }
    }
  }

  static void compareTwo(SliceSolver x, State state, List<int[]> all, int[] q) {
    int got = x.compareBits(q[0], q[1], q[2], q[3]);
    if (q[1] == state.widths[q[0]] || q[3] == state.widths[q[2]]) { due("compareBits", got, -1); return; }
    boolean equal = false;
    boolean unequal = false;
    for (int[] values : all) {
      boolean same = (values[q[0]] >> q[1] & 1) == (values[q[2]] >> q[3] & 1);
      equal |= same;
      unequal |= !same;
    }
    due("compareBits", got, all.isEmpty() ? -2 : equal && unequal ? 2 : equal ? 1 : 0);
  }

  // ---- random problems and texts

  static String randomProblem(int variables, int most, int equations, int disequations) {
    StringBuilder text = new StringBuilder();
    int[] widths = new int[8];
    for (int i = 0; i < variables; i++) {
      int v = random(8);
      if (widths[v] > 0) continue;
      widths[v] = 1 + random(most);
      text.append("bits ").append((char) ('a' + v)).append(widths[v]).append(';');
    }
    int limit = 150 + random(50);
    for (int i = 0; i < equations + disequations; i++) {
      int width = 1 + random(Math.min(16, 2 * most));
      String line = (i % 4 == 3 && disequations > 0 || i >= equations ? "not " : "")
          + randomTerm(widths, width) + "=" + randomTerm(widths, width) + ";";
      if (text.length() + line.length() <= limit) text.append(line);
    }
    return text.toString();
  }

  /** Three disequations that mostly fail if all bits are 0, so that models need several ones. */
  static String unequalProblem() {
    StringBuilder text = new StringBuilder();
    int[] widths = new int[8];
    for (int i = 2 + random(3); i > 0; i--) {
      int v = random(8);
      if (widths[v] > 0) continue;
      widths[v] = 1 + random(3);
      text.append("bits ").append((char) ('a' + v)).append(widths[v]).append(';');
    }
    if (random(2) == 0) {
      int width = 1 + random(2);
      text.append(randomTerm(widths, width)).append('=').append(randomTerm(widths, width)).append(';');
    }
    for (int i = 0; i < 3; i++) {
      int width = 1 + random(4);
      String other = random(4) == 0 ? randomTerm(widths, width) : "%" + "0000".substring(0, width);
      text.append("not ").append(randomTerm(widths, width)).append('=').append(other).append(';');
    }
    return text.toString();
  }

  static String randomTerm(int[] widths, int width) {
    StringBuilder term = new StringBuilder();
    int left = width;
    while (left > 0) {
      if (term.length() > 0) term.append('.');
      int v = random(8);
      for (int i = 0; i < 8 && widths[v] == 0; i++) v = (v + 1) % 8;
      int most = widths[v] == 0 ? left : Math.min(left, widths[v]);
      int size = random(3) == 0 ? 1 + random(most) : most;
      left -= size;
      if (widths[v] == 0 || random(9) == 0) {
        term.append('%');
        int shade = random(3);
        for (int i = 0; i < size; i++) term.append((char) ('0' + (shade < 2 ? shade : random(2))));
      } else if (size == widths[v]) {
        term.append((char) ('a' + v));
      } else {
        int low = random(widths[v] - size + 1);
        term.append((char) ('a' + v)).append('[').append(low + size - 1).append(':').append(low).append(']');
      }
    }
    return term.toString();
  }

  /** Spoils a valid text at some places, so that most errors lie deep inside it. */
  static String spoil(String text) {
    String signs = "abchi bitsnot 0123456789;=.[:]%%  ;=.A_";
    StringBuilder spoiled = new StringBuilder(text);
    for (int i = random(3); i >= 0; i--) {
      int at = random(spoiled.length() + 1);
      char sign = signs.charAt(random(signs.length()));
      int way = random(4);
      if (way == 0 || at == spoiled.length()) spoiled.insert(at, sign);
      else if (way == 1) spoiled.deleteCharAt(at);
      else if (way == 2) spoiled.setCharAt(at, sign);
      else spoiled.setLength(at);
    }
    if (spoiled.length() > 200) spoiled.setLength(200);
    return spoiled.toString();
  }

  static int loadDue(String text, State[] into) {
    try {
      into[0] = new Parser(text).problem();
      return into[0].statements();
    } catch (NotAllowed e) {
      return -10 - e.position;
    }
  }

  static void type(SliceSolver x, String text) {
    for (int i = 0; i < text.length(); i++) due("append", x.append(text.charAt(i)), i + 1);
  }

  // ---- the rounds

  static void texts(int rounds) {
    int[] seen = new int[2];
    for (int i = 0; i < rounds; i++) {
      String text = randomProblem(1 + random(5), 1 + random(16), random(11), random(4));
      if (i % 3 > 0) text = spoil(text);
      what = text;
      SliceSolver x = new SliceSolver();
      type(x, text);
      int want = loadDue(text, new State[1]);
      seen[want < 0 ? 0 : 1]++;
      due("load", x.load(), want);
      due("clearText", x.clearText(), want < 0 ? text.length() : 0);
    }
    if (Math.min(seen[0], seen[1]) < rounds / 20) due("variety of texts", seen[0], seen[1]);
  }

  static void problems(int rounds, int variables, int most, int disequations, boolean deep) {
    for (int i = 0; i < rounds; i++) {
      problem(randomProblem(1 + random(variables), 1 + random(most), random(8), disequations), deep);
    }
  }

  static void problem(String text, boolean deep) {
    what = text;
    SliceSolver x = new SliceSolver();
    type(x, text);
    State[] state = new State[1];
    due("load", x.load(), loadDue(text, state));
    if (state[0] != null) compareAll(x, state[0], deep);
  }

  /** Runs of changes, each followed by all questions, against plain lists of states. */
  static void changes(int runs) {
    for (int run = 0; run < runs; run++) {
      SliceSolver x = new SliceSolver();
      State state = new State();
      List<State> saved = new ArrayList<>();
      State[] slots = new State[2];
      for (int step = 0; step < 25; step++) {
        State before = state.copy();
        int choice = random(10);
        int number = random(6) - 1;
        if (choice < 3) {
          String text = randomProblem(3, 4, 1 + random(9), random(4));
          State[] into = new State[1];
          type(x, text);
          int want = loadDue(text, into);
          due("load", x.load(), want);
          x.clearText();
          if (into[0] != null) { saved.add(before); state = into[0]; }
        } else if (choice < 5) {
          state = before.copy();
          due("removeEquation", x.removeEquation(number), removed(state.equations, number));
          if (state.statements() < before.statements()) saved.add(before);
        } else if (choice < 6) {
          state = before.copy();
          due("removeDisequation", x.removeDisequation(number), removed(state.disequations, number));
          if (state.statements() < before.statements()) saved.add(before);
        } else if (choice < 8) {
          boolean is = !saved.isEmpty();
          if (is) state = saved.remove(saved.size() - 1);
          due("undo", x.undo(), is ? saved.size() : -2);
        } else {
          int slot = random(4) - 1;
          boolean is = slot == 0 || slot == 1;
          if (choice == 8) {
            due("save", x.save(slot), is ? state.statements() : -1);
            if (is) slots[slot] = state.copy();
          } else {
            boolean full = is && slots[slot] != null;
            if (full) { state = slots[slot].copy(); saved.clear(); }
            due("restore", x.restore(slot), !is ? -1 : full ? state.statements() : -2);
          }
        }
        if (saved.size() > 6) saved.remove(0);
        what = "run " + run + ", step " + step;
        due("undoDepth", x.undoDepth(), saved.size());
        compareAll(x, state, true);
      }
    }
  }

  static int removed(List<Statement> list, int number) {
    if (number < 0 || number >= list.size()) return -1;
    list.remove(number);
    return list.size();
  }

  public static void main(String[] args) {
    texts(6000);
    problems(1500, 3, 3, 3, true);
    problems(600, 5, 5, 3, true);
    problems(1500, 8, 16, 2, false);
    problems(100, 8, 16, 1, true);
    for (int i = 0; i < 1500; i++) problem(unequalProblem(), true);
    changes(60);
    for (int n : models) if (n < 20) due("variety of models", n, 20);
    System.out.println(wrong == 0 ? compared + " answers are as due" : wrong + " answers are not as due");
    if (wrong != 0) System.exit(1);
  }
}
