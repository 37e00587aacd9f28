/** Random problems and texts, the same ones in every run of the tests. */
final class Problems {
  private static long seed = 20261117L;

  private Problems() {}

  static int random(int bound) {
    seed = seed * 6364136223846793005L + 1442695040888963407L;
    return (int) ((seed >>> 33) % bound);
  }

  static String randomProblem(int variables, int most, int equations, int disequations) {
    StringBuilder text = new StringBuilder();
    int[] widths = new int[8];
    for (int i = 0; i < variables; i++) {
      int v = random(8);
      if (widths[v] > 0) continue;
      widths[v] = 1 + random(most);
      text.append("bits ").append((char) ('a' + v)).append(widths[v]).append(';');
    }
    int limit = 150 + random(50);
    for (int i = 0; i < equations + disequations; i++) {
      int width = 1 + random(Math.min(16, 2 * most));
      String line = (i % 4 == 3 && disequations > 0 || i >= equations ? "not " : "")
          + randomTerm(widths, width) + "=" + randomTerm(widths, width) + ";";
      if (text.length() + line.length() <= limit) text.append(line);
    }
    return text.toString();
  }

  /** Three disequations that mostly fail if all bits are 0, so that models need several ones. */
  static String unequalProblem() {
    StringBuilder text = new StringBuilder();
    int[] widths = new int[8];
    for (int i = 2 + random(3); i > 0; i--) {
      int v = random(8);
      if (widths[v] > 0) continue;
      widths[v] = 1 + random(3);
      text.append("bits ").append((char) ('a' + v)).append(widths[v]).append(';');
    }
    if (random(2) == 0) {
      int width = 1 + random(2);
      text.append(randomTerm(widths, width)).append('=').append(randomTerm(widths, width)).append(';');
    }
    for (int i = 0; i < 3; i++) {
      int width = 1 + random(4);
      String other = random(4) == 0 ? randomTerm(widths, width) : "%" + "0000".substring(0, width);
      text.append("not ").append(randomTerm(widths, width)).append('=').append(other).append(';');
    }
    return text.toString();
  }

  static String randomTerm(int[] widths, int width) {
    StringBuilder term = new StringBuilder();
    int left = width;
    while (left > 0) {
      if (term.length() > 0) term.append('.');
      int v = random(8);
      for (int i = 0; i < 8 && widths[v] == 0; i++) v = (v + 1) % 8;
      int most = widths[v] == 0 ? left : Math.min(left, widths[v]);
      int size = random(3) == 0 ? 1 + random(most) : most;
      left -= size;
      if (widths[v] == 0 || random(9) == 0) {
        term.append('%');
        int shade = random(3);
        for (int i = 0; i < size; i++) term.append((char) ('0' + (shade < 2 ? shade : random(2))));
      } else if (size == widths[v]) {
        term.append((char) ('a' + v));
      } else {
        int low = random(widths[v] - size + 1);
        term.append((char) ('a' + v)).append('[').append(low + size - 1).append(':').append(low).append(']');
      }
    }
    return term.toString();
  }

  /** Spoils a valid text at some places, so that most errors lie deep inside it. */
  static String spoil(String text) {
    String signs = "abchi bitsnot 0123456789;=.[:]%%  ;=.A_";
    StringBuilder spoiled = new StringBuilder(text);
    for (int i = random(3); i >= 0; i--) {
      int at = random(spoiled.length() + 1);
      char sign = signs.charAt(random(signs.length()));
      int way = random(4);
      if (way == 0 || at == spoiled.length()) spoiled.insert(at, sign);
      else if (way == 1) spoiled.deleteCharAt(at);
      else if (way == 2) spoiled.setCharAt(at, sign);
      else spoiled.setLength(at);
    }
    if (spoiled.length() > 200) spoiled.setLength(200);
    return spoiled.toString();
  }
}
