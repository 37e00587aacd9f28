import java.util.ArrayDeque;
import java.util.ArrayList;
import java.util.Arrays;
import java.util.Collections;
import java.util.HashMap;
import java.util.List;
import java.util.Map;
import java.util.TreeMap;
import java.util.TreeSet;

/**
 * A slow reference that is written straight from the document: slices and pieces instead of bits,
 * and all assignments tried one by one instead of a search.
 */
final class Reference {
  private Reference() {}

  // ---- the reference: problem and text

  record Part(int variable, int high, int low, String constant) {
    int width() { return constant == null ? high - low + 1 : constant.length(); }
  }

  /** Parts are listed from the least significant one on. */
  record Statement(List<Part> left, List<Part> right) {
    List<Part> side(int i) { return i == 0 ? left : right; }
    int width() { return widthOf(left); }
  }

  static int widthOf(List<Part> term) {
    int sum = 0;
    for (Part part : term) sum += part.width();
    return sum;
  }

  static final class State {
    int[] widths = new int[8];
    List<Statement> equations = new ArrayList<>();
    List<Statement> disequations = new ArrayList<>();

    State copy() {
      State copy = new State();
      copy.widths = widths.clone();
      copy.equations = new ArrayList<>(equations);
      copy.disequations = new ArrayList<>(disequations);
      return copy;
    }

    int statements() { return equations.size() + disequations.size(); }
  }

  static final class NotAllowed extends Exception {
    private static final long serialVersionUID = 1L;
    final int position;
    NotAllowed(int position) { this.position = position; }
  }

  static final class Parser {
    final String text;
    final State state = new State();
    int at = 0;

    Parser(String text) { this.text = text; }

    String peek() {
      while (at < text.length() && text.charAt(at) == ' ') at++;
      if (at == text.length()) return "";
      int end = at + 1;
      for (String run : new String[] {"abcdefghijklmnopqrstuvwxyz", "0123456789"}) {
        if (run.indexOf(text.charAt(at)) >= 0) {
          while (end < text.length() && run.indexOf(text.charAt(end)) >= 0) end++;
        }
      }
      return text.substring(at, end);
    }

    void need(boolean allowed) throws NotAllowed {
      if (!allowed) { peek(); throw new NotAllowed(at); }
    }

    String take() { String token = peek(); at += token.length(); return token; }

    void take(String token) throws NotAllowed { need(peek().equals(token)); take(); }

    int number(int least, int most) throws NotAllowed {
      String token = peek();
      need(token.matches("0|[1-9][0-9]?"));
      int number = Integer.parseInt(token);
      need(number >= least && number <= most);
      take();
      return number;
    }

    int name(boolean declared) throws NotAllowed {
      String token = peek();
      need(token.matches("[a-h]"));
      int variable = token.charAt(0) - 'a';
      need(state.widths[variable] > 0 == declared);
      take();
      return variable;
    }

    State problem() throws NotAllowed {
      while (!peek().isEmpty()) {
        if (peek().equals("bits")) {
          take();
          int variable = name(false);
          state.widths[variable] = number(1, 16);
          take(";");
        } else {
          statement();
        }
      }
      return state;
    }

    void statement() throws NotAllowed {
      boolean negated = peek().equals("not");
      if (negated) { need(state.disequations.size() < 3); take(); }
      else need(state.equations.size() < 10);
      List<Part> left = term();
      if (peek().equals("=")) need(widthOf(left) <= 16);
      take("=");
      List<Part> right = term();
      if (peek().equals(";")) need(widthOf(left) == widthOf(right));
      take(";");
      (negated ? state.disequations : state.equations).add(new Statement(left, right));
    }

    List<Part> term() throws NotAllowed {
      List<Part> parts = new ArrayList<>();
      parts.add(part());
      while (peek().equals(".")) { take(); parts.add(part()); }
      Collections.reverse(parts);
      return parts;
    }

    Part part() throws NotAllowed {
      if (peek().equals("%")) {
        take();
        need(peek().matches("[01]{1,16}"));
        return new Part(-1, 0, 0, take());
      }
      int variable = name(true);
      int width = state.widths[variable];
      if (!peek().equals("[")) return new Part(variable, width - 1, 0, null);
      take();
      int high = number(0, width - 1);
      take(":");
      int low = number(0, high);
      take("]");
      return new Part(variable, high, low, null);
    }
  }

  // ---- the reference: cuts, pieces and classes

  static final class Slicing {
    final State state;
    final List<TreeSet<Integer>> cuts = new ArrayList<>();
    /** Slices are named by 16 times the variable plus the number. */
    final TreeMap<Integer, TreeSet<Integer>> neighbours = new TreeMap<>();
    final Map<Integer, TreeSet<String>> constants = new HashMap<>();
    final TreeMap<Integer, TreeSet<Integer>> classes = new TreeMap<>();
    final Map<Integer, Integer> classOf = new HashMap<>();
    boolean consistent = true;

    Slicing(State state) {
      this.state = state;
      for (int v = 0; v < 8; v++) cuts.add(new TreeSet<>());
      for (Statement e : state.equations) {
        for (int side = 0; side < 2; side++) for (Part part : e.side(side)) cutPart(part);
      }
      boolean changed = true;
      while (changed) {
        changed = false;
        for (Statement e : state.equations) {
          for (int p = 1; p < e.width(); p++) {
            if (!marked(e.left(), p) && !marked(e.right(), p)) continue;
            changed |= cutAt(e.left(), p);
            changed |= cutAt(e.right(), p);
          }
        }
      }
      for (int v = 0; v < 8; v++) {
        for (int s = 0; s < count(v); s++) {
          neighbours.put(16 * v + s, new TreeSet<>());
          constants.put(16 * v + s, new TreeSet<>());
        }
      }
      for (Statement e : state.equations) pieces(e);
      for (int slice : neighbours.keySet()) if (!classOf.containsKey(slice)) gather(slice);
    }

    void cutPart(Part part) {
      if (part.constant() != null) return;
      int width = state.widths[part.variable()];
      for (int p : new int[] {part.low(), part.high() + 1}) {
        if (p >= 1 && p <= width - 1) cuts.get(part.variable()).add(p);
      }
    }

    /** The part with bits p - 1 and p of the term, or null if they belong to different parts. */
    static Part around(List<Part> term, int p) {
      int start = 0;
      for (Part part : term) {
        if (p > start && p < start + part.width()) return part;
        start += part.width();
      }
      return null;
    }

    static int offset(List<Part> term, int p) {
      int start = 0;
      for (Part part : term) {
        if (p < start + part.width()) return p - start;
        start += part.width();
      }
      return -1;
    }

    boolean marked(List<Part> term, int p) {
      Part part = around(term, p);
      if (part == null) return true;
      return part.constant() == null && cuts.get(part.variable()).contains(part.low() + offset(term, p));
    }

    boolean cutAt(List<Part> term, int p) {
      Part part = around(term, p);
      if (part == null || part.constant() != null) return false;
      return cuts.get(part.variable()).add(part.low() + offset(term, p));
    }

    int count(int v) { return state.widths[v] == 0 ? 0 : cuts.get(v).size() + 1; }

    int start(int v, int s) { return s == 0 ? 0 : new ArrayList<>(cuts.get(v)).get(s - 1); }

    int end(int v, int s) { return s == count(v) - 1 ? state.widths[v] : start(v, s + 1); }

    void pieces(Statement e) {
      int from = 0;
      for (int p = 1; p <= e.width(); p++) {
        if (p < e.width() && !marked(e.left(), p) && !marked(e.right(), p)) continue;
        Object left = piece(e.left(), from, p);
        Object right = piece(e.right(), from, p);
        if (left instanceof Integer a && right instanceof Integer b) {
          neighbours.get(a).add(b);
          neighbours.get(b).add(a);
        } else if (left instanceof Integer a) {
          constants.get(a).add((String) right);
        } else if (right instanceof Integer b) {
          constants.get(b).add((String) left);
        } else if (!left.equals(right)) {
          consistent = false;
        }
        from = p;
      }
    }

    Object piece(List<Part> term, int from, int to) {
      int start = 0;
      for (Part part : term) {
        if (from < start + part.width()) {
          int low = from - start;
          int high = to - start;
          if (part.constant() != null) {
            int n = part.constant().length();
            return part.constant().substring(n - high, n - low);
          }
          for (int s = 0; s < count(part.variable()); s++) {
            if (start(part.variable(), s) == part.low() + low) {
              if (end(part.variable(), s) != part.low() + high) throw new IllegalStateException("no slice");
              return 16 * part.variable() + s;
            }
          }
          throw new IllegalStateException("no slice");
        }
        start += part.width();
      }
      throw new IllegalStateException("no part");
    }

    /** Slices are met in rising order, so the first one of a class is its representative. */
    void gather(int slice) {
      TreeSet<Integer> members = new TreeSet<>();
      TreeSet<String> values = new TreeSet<>();
      ArrayDeque<Integer> open = new ArrayDeque<>(List.of(slice));
      while (!open.isEmpty()) {
        int next = open.remove();
        if (!members.add(next)) continue;
        classOf.put(next, slice);
        values.addAll(constants.get(next));
        open.addAll(neighbours.get(next));
      }
      if (values.size() > 1) consistent = false;
      for (int member : members) constants.put(member, values);
      classes.put(slice, members);
    }

    /** The free bits in their order: 16 times the class plus the position. */
    List<int[]> freeBits() {
      List<int[]> bits = new ArrayList<>();
      for (int c : classes.keySet()) {
        if (!constants.get(c).isEmpty()) continue;
        for (int p = 0; p < end(c / 16, c % 16) - start(c / 16, c % 16); p++) bits.add(new int[] {c, p});
      }
      return bits;
    }

    int sliceOf(int v, int bit) {
      int s = 0;
      while (end(v, s) <= bit) s++;
      return s;
    }

    /** -1 if the class of the bit's slice is not fixed. */
    int fixed(int v, int bit) {
      int s = sliceOf(v, bit);
      TreeSet<String> values = constants.get(16 * v + s);
      if (values.isEmpty()) return -1;
      String value = values.first();
      return value.charAt(value.length() - 1 - (bit - start(v, s))) - '0';
    }

    int[] valuesWith(List<int[]> ones) {
      int[] values = new int[8];
      for (int v = 0; v < 8; v++) {
        for (int bit = 0; bit < state.widths[v]; bit++) {
          int s = sliceOf(v, bit);
          boolean one = fixed(v, bit) == 1;
          for (int[] free : ones) {
            one |= free[0] == classOf.get(16 * v + s) && free[1] == bit - start(v, s);
          }
          if (one) values[v] |= 1 << bit;
        }
      }
      return values;
    }
  }

  static int valueOf(List<Part> term, int[] values) {
    int sum = 0;
    int at = 0;
    for (Part part : term) {
      int bits = part.constant() != null ? Integer.parseInt(part.constant(), 2)
          : values[part.variable()] >> part.low() & (1 << part.width()) - 1;
      sum |= bits << at;
      at += part.width();
    }
    return sum;
  }

  static boolean same(Statement s, int[] values) {
    return valueOf(s.left(), values) == valueOf(s.right(), values);
  }

  static boolean isModel(State state, int[] values) {
    for (Statement e : state.equations) if (!same(e, values)) return false;
    for (Statement d : state.disequations) if (same(d, values)) return false;
    return true;
  }

  static boolean consistent(State state, int set) {
    State part = state.copy();
    part.equations.clear();
    for (int i = 0; i < state.equations.size(); i++) {
      if ((set >> i & 1) != 0) part.equations.add(state.equations.get(i));
    }
    return new Slicing(part).consistent;
  }

  static int firstConflict(State state) {
    for (int k = 0; k < state.equations.size(); k++) if (!consistent(state, (2 << k) - 1)) return k;
    return -9;
  }

  static int conflictSet(State state) {
    int set = (1 << state.equations.size()) - 1;
    if (consistent(state, set)) return -9;
    for (int i = 0; i < state.equations.size(); i++) {
      if (!consistent(state, set & ~(1 << i))) set &= ~(1 << i);
    }
    return set;
  }

  // ---- the reference: models

  /** The chosen model's free ones, or null. All sets of the size are tried in their order. */
  static List<int[]> chosen(Slicing slicing) {
    if (!slicing.consistent) return null;
    List<int[]> free = slicing.freeBits();
    for (int size = 0; size <= slicing.state.disequations.size(); size++) {
      List<int[]> found = sets(slicing, free, 0, size, new ArrayList<>());
      if (found != null) return found;
    }
    return null;
  }

  static List<int[]> sets(Slicing slicing, List<int[]> free, int from, int size, List<int[]> taken) {
    if (size == 0) return isModel(slicing.state, slicing.valuesWith(taken)) ? new ArrayList<>(taken) : null;
    for (int i = from; i < free.size(); i++) {
      taken.add(free.get(i));
      List<int[]> found = sets(slicing, free, i + 1, size - 1, taken);
      if (found != null) return found;
      taken.remove(taken.size() - 1);
    }
    return null;
  }

  static int bitsOf(State state) { return Arrays.stream(state.widths).sum(); }

  /** All assignments of the declared bits that meet the equations; for few bits alone. */
  static List<int[]> solutions(State state) {
    List<int[]> all = new ArrayList<>();
    for (int n = 0; n < 1 << bitsOf(state); n++) {
      int[] values = new int[8];
      int at = 0;
      for (int v = 0; v < 8; v++) {
        values[v] = n >> at & (1 << state.widths[v]) - 1;
        at += state.widths[v];
      }
      boolean good = true;
      for (Statement e : state.equations) good &= same(e, values);
      if (good) all.add(values);
    }
    return all;
  }

  // ---- the reference: what follows from the equations, bit by bit

  static final int ZERO = 128;
  static final int ONE = 129;

  /** The bits of a term from the least significant one on: 16 times the variable plus the bit, ZERO or ONE. */
  static List<Integer> bits(List<Part> term) {
    List<Integer> bits = new ArrayList<>();
    for (Part part : term) {
      for (int i = 0; i < part.width(); i++) {
        bits.add(part.constant() == null ? 16 * part.variable() + part.low() + i
            : ZERO + part.constant().charAt(part.width() - 1 - i) - '0');
      }
    }
    return bits;
  }

  /** A mark for each bit and constant; two of them have the same one if the statements make them equal. */
  static int[] marks(List<Statement> equal) {
    int[] marks = new int[ONE + 1];
    for (int i = 0; i <= ONE; i++) marks[i] = i;
    for (Statement statement : equal) {
      List<Integer> left = bits(statement.left());
      List<Integer> right = bits(statement.right());
      for (int i = 0; i < left.size(); i++) {
        int from = marks[left.get(i)];
        int to = marks[right.get(i)];
        for (int k = 0; k <= ONE; k++) if (marks[k] == from) marks[k] = to;
      }
    }
    return marks;
  }

  static int compared(int[] marks, int bit, int otherBit) {
    if (marks[ZERO] == marks[ONE]) return -2;
    int a = marks[bit];
    int b = marks[otherBit];
    if (a == b) return 1;
    boolean differ = a == marks[ZERO] && b == marks[ONE] || a == marks[ONE] && b == marks[ZERO];
    return differ ? 0 : 2;
  }

  static int implied(State state, int disequation) {
    int[] before = marks(state.equations);
    if (before[ZERO] == before[ONE]) return -2;
    List<Statement> equal = new ArrayList<>(state.equations);
    equal.add(state.disequations.get(disequation));
    int[] after = marks(equal);
    return after[ZERO] == after[ONE] ? 1 : 0;
  }

  /** What load() has to answer; a valid problem is put into the row. */
  static int loadDue(String text, State[] into) {
    try {
      into[0] = new Parser(text).problem();
      return into[0].statements();
    } catch (NotAllowed e) {
      return -10 - e.position;
    }
  }
}
