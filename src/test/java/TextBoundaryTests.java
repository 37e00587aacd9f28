/** The boundary cases of the text and its reading, sentence by sentence of the document. */
public final class TextBoundaryTests {
  private static final String SIGNS = ";=.[:]%";
  private static final String WHOLE = "bits a4;bits b16;not a[3:2].%01=b[9:6];a=%0101;b[15:0]=b;";

  public static void main(String[] args) {
    characters();
    fullText();
    emptyText();
    loading();
    names();
    declaredWidths();
    declaredOnce();
    declaredEarlier();
    constants();
    ranges();
    numbers();
    words();
    termWidths();
    equalWidths();
    manyEquations();
    manyDisequations();
    spaces();
    neverAllowed();
    everyTokenEverywhere();
    textEnds();
    Run.end();
  }

  private static boolean isLetter(int sign) { return sign >= 'a' && sign <= 'z'; }

  private static boolean isDigit(int sign) { return sign >= '0' && sign <= '9'; }

  private static boolean isNeverAllowed(int sign) {
    return !isLetter(sign) && !isDigit(sign) && sign != ' ' && SIGNS.indexOf(sign) < 0;
  }

  // ---- promises 2 to 4

  private static void characters() {
    Run.sentence("character code, 0 to 255");
    Run run = new Run();
    int[] wrong = {-1, 256, -2, 257, 97 - 256, 97 + 256, 97 + 65536, 97 - 65536, 59 + (1 << 31),
        Integer.MIN_VALUE, Integer.MAX_VALUE};
    for (int code : wrong) run.due(Run.INVALID, "append", code);
    run.due(1, "append", 0);
    for (int code : wrong) run.due(Run.INVALID, "append", code);
    run.due(2, "append", 255).due(2, "clearText");
    Run.sentence("Returns the new length of the text, for each code from 0 to 255");
    Run low = new Run();
    for (int code = 0; code < 128; code++) low.due(code + 1, "append", code);
    low.due(128, "clearText");
    Run high = new Run();
    for (int code = 128; code < 256; code++) high.due(code - 127, "append", code);
    high.due(128, "clearText");
  }

  private static void fullText() {
    Run.sentence("CAPACITY_EXCEEDED if the text already has 200 characters");
    Run run = new Run();
    for (int i = 1; i <= 200; i++) run.due(i, "append", 32);
    run.due(Run.FULL, "append", 32).due(Run.FULL, "append", 0).due(Run.FULL, "append", 255);
    run.due(200, "clearText").due(1, "append", 32).due(1, "clearText");
    Run.sentence("A problem is read from a text of at most 200 characters");
    new Run().type(Run.times(" ", 192) + "bits a1;").due(Run.FULL, "append", ';').due(0, "load")
        .due(1, "width", 0).due(1, "append", ';');
    new Run().type("bits a1;" + Run.times(" ", 192)).due(Run.FULL, "append", 'x').due(0, "load")
        .due(1, "width", 0);
    String full = "bits a16;bits b16;bits c16;bits d16;bits e16;bits f16;bits g16;bits h16;"
        + "a=b;b=c;c=d;d=e;e=f;f=g;g=h;a[15:8]=%10101010;b[7:0]=%01010101;h[0:0]=%1;"
        + "not a=%0000000000000000;not b[15:15]=%0;not  c[1:1]=%1;";
    new Run().type(full).due(Run.FULL, "append", ';').due(13, "load").due(0, "clearText")
        .due(10, "equationCount").due(3, "disequationCount").due(16, "width", 7).due(43605, "value", 7)
        .due(3, "classCount").due(0, "freeBits").due(0, "oneBits").due(1, "isImplied", 2);
    new Run().type(full.substring(0, 199)).due(-209, "load").due(200, "append", ' ').due(-210, "load")
        .due(Run.FULL, "append", ';').due(200, "clearText");
    new Run().type(Run.times(";", 200)).due(-10, "load").due(200, "clearText");
    new Run().type(Run.times(" ", 199) + "#").due(-209, "load").due(200, "clearText");
    new Run().type(Run.times(" ", 200)).due(0, "load").due(0, "clearText");
    String wide = "bits a8;" + Run.times("a.", 95) + "a";
    new Run().type(wide + "=").due(-10 - 199, "load").due(200, "clearText");
    new Run().type(Run.times("%1.", 66) + "%1").due(-210, "load").due(200, "clearText");
    new Run().type("%" + Run.times("1", 199)).due(-11, "load").due(200, "clearText");
    new Run().type(Run.times("a", 200)).due(-10, "load").due(200, "clearText");
  }

  private static void emptyText() {
    Run.sentence("Creates a solver without variables and statements, with an empty text.");
    new Run().due(0, "clearText").due(0, "clearText").due(1, "append", 'x').due(1, "clearText");
    Run.sentence("Reads the text as a new problem: the empty text is one without statements");
    new Run().due(0, "load").due(1, "undoDepth").due(0, "clearText").due(0, "width", 0);
    Run.of("bits a4;a=%0101;not a=%0000;").due(0, "load").due(0, "width", 0).due(0, "equationCount")
        .due(0, "disequationCount").due(0, "classCount").due(2, "undoDepth").due(1, "undo")
        .due(5, "value", 0);
    Run.sentence("Makes the text empty. Returns the previous length of the text.");
    new Run().type("x").due(1, "clearText").due(0, "clearText").type("bits a2;").due(8, "clearText")
        .due(0, "load").due(0, "width", 0);
    new Run().type("bits a2;").due(8, "clearText").type("bits b").due(-16, "load").due(6, "clearText");
  }

  private static void loading() {
    Run.sentence("Returns the number of statements, 0 to 13");
    Run.valid("", 0);
    Run.valid("bits a1;", 0);
    Run.valid("%1=%1;", 1);
    Run.valid("not %1=%1;", 1);
    Run.valid(Run.times("%1=%1;", 10) + Run.times("not%1=%1;", 3), 13);
    Run.sentence("The text becomes empty; the snapshots stay.");
    new Run().type("bits a3;").due(0, "load").due(0, "save", 0).type("bits a5;not a=a;").due(1, "load")
        .due(1, "save", 1).type("bits a7;").due(0, "load").due(0, "clearText").due(0, "restore", 0)
        .due(3, "width", 0).due(1, "restore", 1).due(5, "width", 0);
    Run.sentence("-10 minus the error position if the text is not a valid problem (the text is kept then)");
    new Run().type("x").due(-10, "load").due(-10, "load").due(1, "clearText").due(0, "load");
    new Run().type("bits a").due(-16, "load").due(7, "append", '1').due(-17, "load")
        .due(8, "append", '6').due(-18, "load").due(9, "append", ';').due(0, "load").due(16, "width", 0);
    Run.sentence("which replaces all variables and statements");
    Run.of("bits a4;bits b4;a=b;not a=b;").type("bits c2;").due(0, "load").due(0, "width", 0)
        .due(0, "width", 1).due(2, "width", 2).due(0, "equationCount").due(0, "disequationCount")
        .type("a=a;").due(-10, "load").due(4, "clearText").type("bits a2;").due(0, "load");
    Run.sentence("numbered from 0 in the order of the text");
    Run.of("bits a2;not %1=%0;a=%01;not a=a;%1=%0;a=%11;").due(1, "firstConflict")
        .due(2, "removeEquation", 1).due(1, "firstConflict").due(3, "conflictSet")
        .due(1, "removeEquation", 1).due(1, "isImplied", 0).due(0, "isImplied", 1);
  }

  // ---- declarations and names

  private static void names() {
    Run.sentence("There are up to 8 variables, numbered 0 to 7 and named a to h.");
    Run.of("bits a9;bits b10;bits c11;bits d12;bits e13;bits f14;bits g15;bits h1;").due(9, "width", 0)
        .due(10, "width", 1).due(11, "width", 2).due(12, "width", 3).due(13, "width", 4).due(14, "width", 5)
        .due(15, "width", 6).due(1, "width", 7).due(Run.INVALID, "width", 8).due(Run.INVALID, "width", -1);
    for (int sign = 0; sign < 256; sign++) {
      String text = "bits " + (char) sign + "4;";
      if (sign >= 'a' && sign <= 'h') Run.valid(text, 0);
      else Run.refused(text, sign == ' ' ? 6 : 5);
    }
    for (int sign = 'a'; sign <= 'z'; sign++) {
      String text = (char) sign + "=%1;";
      if (sign <= 'h') Run.valid("bits " + (char) sign + "1;" + text, 1);
      else Run.refused("bits a1;" + text, 8);
    }
  }

  private static void declaredWidths() {
    Run.sentence("A declaration gives a variable its width; the number is from 1 to 16");
    for (int width = 0; width <= 99; width++) {
      String text = "bits a" + width + ";";
      if (width < 1 || width > 16) Run.refused(text, 6);
      else Run.of(text).due(width, "width", 0).due(width, "freeBits");
    }
    for (String number : new String[] {"100", "116", "160", "256", "257", "65537", "4294967297", "00", "01", "016"}) {
      Run.refused("bits a" + number + ";", 6);
      Run.refused("bits a " + number, 7);
    }
    Run.refused("bits a-1;", 6);
    Run.refused("bits a+1;", 6);
    Run.refused("bits a;", 6);
  }

  private static void declaredOnce() {
    Run.sentence("the variable must not be declared already");
    for (char name = 'a'; name <= 'h'; name++) {
      Run.refused("bits " + name + "4;bits " + name + "4;", 13);
      Run.refused("bits " + name + "4; bits  " + name, 15);
    }
    Run.refused("bits a4;bits b4;a=b;bits a5;", 25);
    Run.valid("bits a4;bits b4;", 0);
    Run.sentence("the variables of an earlier problem are not declared in the next one");
    Run.of("bits a4;").type("bits a5;").due(0, "load").due(5, "width", 0);
    new Run().type("bits a4;bits a").due(-23, "load").due(14, "clearText").type("bits a5;").due(0, "load");
  }

  private static void declaredEarlier() {
    Run.sentence("A name that occurs in a statement must be declared earlier in the text.");
    Run.refused("a=%1;", 0);
    Run.refused("a=%1;bits a1;", 0);
    Run.refused("%1=a;bits a1;", 3);
    Run.refused("not a=%1;", 4);
    Run.refused("not %1=a;", 7);
    Run.refused("bits a1;a.b=%11;bits b1;", 10);
    Run.refused("bits a1;a=b;", 10);
    Run.refused("bits a1;b[0:0]=a;", 8);
    Run.valid("bits b1;b=%1;bits a1;a=b;", 2);
    Run.of("bits a1;").type("a=a;").due(-10, "load");
  }

  // ---- parts and tokens

  private static void constants() {
    Run.sentence("The digits behind \"%\" are 1 to 16 digits 0 or 1, the most significant one first.");
    for (int width = 1; width <= 16; width++) {
      String ones = Run.times("1", width);
      String zeros = Run.times("0", width);
      Run.of("bits a" + width + ";a=%" + ones + ";").due((1 << width) - 1, "value", 0);
      Run.of("bits a" + width + ";%" + zeros + "=a;").due(0, "value", 0).due(0, "freeBits");
      Run.of("bits a" + width + ";a=%1" + zeros.substring(1) + ";").due(1 << width - 1, "value", 0);
      Run.of("bits a" + width + ";a=%" + zeros.substring(1) + "1;").due(1, "value", 0);
      for (int digit = 2; digit <= 9; digit++) {
        Run.refused("%" + digit + zeros.substring(1) + "=", 1);
        Run.refused("%" + zeros.substring(1) + digit + "=", 1);
      }
    }
    Run.refused("%=%1;", 1);
    Run.refused("%1=%;", 4);
    Run.refused("%.%1=%1;", 1);
    for (String digit : new String[] {"0", "1"}) {
      Run.refused("%" + Run.times(digit, 17) + "=%1;", 1);
      Run.refused("%1=%" + Run.times(digit, 17) + ";", 4);
      Run.refused("%1.%" + Run.times(digit, 17), 4);
      Run.refused("not % " + Run.times(digit, 32) + ";", 6);
    }
    Run.refused("%1 0=%10;", 3);
  }

  private static void ranges() {
    Run.sentence("high is less than the width of the variable, and low is at most high");
    for (int width = 1; width <= 16; width++) {
      String begin = "bits a" + width + ";a[";
      for (int high = 0; high <= 17; high++) {
        if (high >= width) Run.refused(begin + high + ":0]=%1;", begin.length());
        for (int low = 0; low <= 17 && high < width; low++) {
          String text = begin + high + ":" + low + "]=%";
          if (low > high) Run.refused(text, begin.length() + (high + ":").length());
          else Run.valid(text + Run.times("1", high - low + 1) + ";", 1);
        }
      }
    }
    Run.sentence("the first number is high and the second one is low");
    Run.of("bits a4;a[3:1]=%110;").due(12, "value", 0).due(1, "sliceStart", 0, 1).due(3, "sliceWidth", 0, 1);
    Run.sentence("A name alone stands for all bits of the variable.");
    Run.of("bits a16;bits b16;a=b;b=%1000000000000001;").due(32769, "value", 0);
    Run.refused("bits a4;a[]=%1;", 10);
    Run.refused("bits a4;a[3]=%1;", 11);
    Run.refused("bits a4;[3:0]=a;", 8);
  }

  private static void numbers() {
    Run.sentence("one or two digits and does not begin with 0 unless it is just 0");
    Run.valid("bits a16;a[0:0]=%1;", 1);
    Run.valid("bits a16;a[15:15]=%1;", 1);
    Run.valid("bits a16;a[10:9]=%11;", 1);
    for (String number : new String[] {"00", "01", "09", "000", "010", "015", "100", "150", "0000000001"}) {
      Run.refused("bits a16;a[" + number + ":0]=%1;", 11);
      Run.refused("bits a16;a[15:" + number + "]=%1;", 14);
    }
    Run.refused("bits a16;a[1 5:0]=%1;", 13);
    Run.refused("bits a16;a[15:1 0]=%1;", 16);
    Run.refused("bits a1 6;", 8);
    Run.sentence("A maximal run of the digits 0 to 9 is a token");
    Run.refused("bits a4;a[3:/0]=a;", 12);
    Run.refused("bits a4;a[3/:0]=a;", 11);
    Run.refused("%1/=%1;", 2);
    Run.valid("bits a4;a[3:0]=a;", 1);
    Run.valid("bits a9;a[8:0]=a;", 1);
  }

  private static void words() {
    Run.sentence("\"bits\", \"not\" and the one-letter words a to h (names) are the only words that are allowed");
    for (String word : new String[] {"bit", "bitss", "bbits", "bitt", "cits", "bats", "bins", "sbit", "no", "nott",
        "nnot", "nod", "mot", "nut", "ab", "aa", "hh", "az", "za", "i", "z", "bitsnot", "notbits", "n", "notb"}) {
      Run.refused("bits a4;" + word, 8);
      Run.refused("bits a4; " + word + " b4;", 9);
      Run.refused("bits " + word + "4;", 5);
      Run.refused("bits a4;not " + word + "=a;", 12);
      Run.refused("bits a4;a=" + word + ";", 10);
      Run.refused("bits a4;a." + word, 10);
    }
    Run.sentence("a maximal run of the letters a to z is a word");
    Run.refused("bitsa4;", 0);
    Run.refused("bits a4;nota=a;", 8);
    Run.valid("bits a4;not a=a;", 1);
    Run.valid("not%1=%0;", 1);
    Run.refused("bits A4;", 5);
    Run.refused("BITS a4;", 0);
    Run.refused("bits a4;NOT a=a;", 8);
    Run.refused("bits a4;nOt a=a;", 8);
    Run.refused("bits`a4;", 4);
    Run.refused("bits{a4;", 4);
  }

  // ---- statements

  private static String ofWidth(int width, String name) {
    return width <= 16 ? "%" + Run.times("1", width) : name + ".%" + Run.times("1", width - 16);
  }

  private static void termWidths() {
    Run.sentence("the \"=\" behind a term that is wider than 16 bits");
    for (String negation : new String[] {"", "not "}) {
      String begin = "bits a16;bits b8;" + negation;
      int at = begin.length();
      Run.valid(begin + "a=a;", 1);
      Run.valid(begin + "b.b=b.b;", 1);
      Run.valid(begin + "b[7:1].%1.b=a;", 1);
      Run.valid(begin + "a=b.b[7:1].b[0:0];", 1);
      Run.refused(begin + "a.%1=a.%1;", at + 4);
      Run.refused(begin + "%1.a=%1.a;", at + 4);
      Run.refused(begin + "a.b[0:0]=a;", at + 8);
      Run.refused(begin + "b.b.b=a;", at + 5);
      Run.refused(begin + "a.a=a.a;", at + 3);
      Run.refused(begin + "a.%1 =a;", at + 5);
      Run.refused(begin + "a.%1;", at + 4);
      Run.refused(begin + "a.%1", at + 4);
      Run.refused(begin + "a.%1.#", at + 5);
      Run.refused(begin + "a.a.a.a.a.a[16:0]", at + 12);
    }
    StringBuilder sixteen = new StringBuilder("%1");
    for (int i = 1; i < 16; i++) sixteen.append(".%1");
    Run.valid(sixteen + "=" + sixteen + ";", 1);
    Run.refused(sixteen + ".%1=" + sixteen + ".%1;", sixteen.length() + 3);
    Run.sentence("a term behind the \"=\" that is wider than 16 bits has another width than the first one");
    Run.refused("bits a16;a=a.%1;", 15);
    Run.refused("bits a16;a=a.%1 ;", 16);
    Run.refused("bits a16;not a=a.a.a.a;", 22);
    Run.refused("bits a16;a=a.a", 14);
    Run.refused("bits a16;a=a.a=", 14);
  }

  private static void equalWidths() {
    Run.sentence("the \";\" of a statement whose terms have different widths");
    for (int left = 1; left <= 16; left++) {
      for (int right = 1; right <= 18; right++) {
        String text = "bits a16;" + ofWidth(left, "a") + "=" + ofWidth(right, "a");
        if (left == right) Run.valid(text + ";", 1);
        else Run.refused(text + ";", text.length());
        String negated = text.substring(9);
        if (left == right) Run.valid("bits a16;not " + negated + ";", 1);
        else Run.refused("bits a16;not " + negated + " ;", text.length() + 5);
      }
    }
  }

  private static void manyEquations() {
    Run.sentence("the first token of an eleventh equation (a name or \"%\")");
    String ten = "bits a1;" + Run.times("a=%1;", 10);
    int end = ten.length();
    Run.valid(ten.substring(0, end - 5), 9);
    Run.valid(ten, 10);
    Run.refused(ten + "a=%1;", end);
    Run.refused(ten + "%1=a;", end);
    Run.refused(ten + "  a", end + 2);
    Run.refused(ten + " %", end + 1);
    Run.refused(ten + "b", end);
    Run.refused(ten + "=", end);
    Run.refused(ten + "not a=a;a=a;", end + 8);
    Run.refused(ten + "bits b1;b=a;", end + 8);
    Run.refused(ten + "not a=b;", end + 6);
    Run.sentence("an eleventh statement that is no equation is allowed, and so is a declaration");
    Run.valid(ten + "not a=a;", 11);
    Run.valid(ten + "bits b1;", 10);
    Run.valid(ten + "bits b1;not a=b;not b=b;not b=a;bits c1;", 13);
    Run.valid("bits a1;not a=a;not a=a;" + Run.times("a=%1;", 5) + "not a=a;" + Run.times("a=%1;", 5), 13);
  }

  private static void manyDisequations() {
    Run.sentence("the \"not\" of a fourth disequation");
    String three = "bits a1;" + Run.times("not a=%1;", 3);
    int end = three.length();
    Run.valid(three.substring(0, end - 9), 2);
    Run.valid(three, 3);
    Run.refused(three + "not a=%1;", end);
    Run.refused(three + "  not", end + 2);
    Run.refused(three + "not #", end);
    Run.refused(three + "a=a;not a=a;", end + 4);
    Run.valid(three + "a=a;", 4);
    Run.valid(three + "bits b1;b=a;", 4);
    Run.refused(three + Run.times("a=a;", 10) + "not", end + 40);
    Run.valid(three + Run.times("a=a;", 10), 13);
    Run.refused(three + Run.times("a=a;", 11), end + 40);
  }

  // ---- tokens, spaces and the end of the text

  private static boolean isBetweenTokens(int offset) {
    if (offset == 0 || offset == WHOLE.length()) return true;
    char before = WHOLE.charAt(offset - 1);
    char after = WHOLE.charAt(offset);
    return !(isLetter(before) && isLetter(after)) && !(isDigit(before) && isDigit(after));
  }

  private static void spaces() {
    Run.sentence("Spaces (code 32) may stand before, between and after tokens.");
    StringBuilder spaced = new StringBuilder();
    for (int offset = 0; offset <= WHOLE.length(); offset++) {
      String gap = isBetweenTokens(offset) ? "  " : "";
      spaced.append(gap).append(offset < WHOLE.length() ? WHOLE.substring(offset, offset + 1) : "");
      if (isBetweenTokens(offset)) Run.valid(WHOLE.substring(0, offset) + "   " + WHOLE.substring(offset), 3);
    }
    Run.valid(spaced.toString(), 3);
    Run.sentence("a space ends a word or a run of digits");
    Run.refused("bi ts a4;", 0);
    Run.refused("bits a4;n ot a=a;", 8);
    Run.refused("bits a1 6;", 8);
  }

  private static void neverAllowed() {
    Run.sentence("any other character except a space is a token of its own that is never allowed");
    for (int sign = 0; sign < 256; sign++) {
      if (!isNeverAllowed(sign)) continue;
      for (int offset = 0; offset <= WHOLE.length(); offset++) {
        if (!isBetweenTokens(offset)) continue;
        Run.refused(WHOLE.substring(0, offset) + (char) sign + WHOLE.substring(offset), offset);
      }
      Run.refused("bi" + (char) sign + "ts a4;", 0);
      Run.refused("bits a1" + (char) sign + "6;", 7);
    }
  }

  /** Behind the text, exactly the tokens of the list are allowed. */
  private static void next(String text, String... allowed) {
    String[] tokens = {"bits", "not", "a", "b", "h", "i", "ab", "0", "1", "3", "4", "16", "17", "01", "0101",
        "2222", "%", "=", ";", ".", "[", ":", "]", "#"};
    for (String token : tokens) {
      String longer = text + " " + token;
      boolean isAllowed = java.util.Arrays.asList(allowed).contains(token);
      if (!isAllowed) Run.refused(longer, text.length() + 1);
      else if (token.equals(";")) Run.valid(longer, text.contains("=") ? 1 : 0);
      else Run.refused(longer, longer.length());
      if (!isAllowed) Run.refused(longer + " ; #", text.length() + 1);
    }
  }

  private static void everyTokenEverywhere() {
    Run.sentence("the first character of the first token that is not allowed where it stands");
    next("", "bits", "not", "%");
    next("bits a4;", "bits", "not", "a", "%");
    next("bits a4;a=a;", "bits", "not", "a", "%");
    next("bits a4;not a=a;", "bits", "not", "a", "%");
    next("bits", "a", "b", "h");
    next("bits a4;bits", "b", "h");
    next("bits a", "1", "3", "4", "16");
    next("bits a4", ";");
    next("not", "%");
    next("bits a4;not", "a", "%");
    next("bits a4;a", "[", ".", "=");
    next("bits a4;a[", "0", "1", "3");
    next("bits a4;a[3", ":");
    next("bits a4;a[1:", "0", "1");
    next("bits a4;a[3:0", "]");
    next("bits a4;a[3:0]", ".", "=");
    next("bits a4;a.", "a", "%");
    next("bits a4;a.%", "0", "1", "01", "0101");
    next("bits a4;a=", "a", "%");
    next("bits a4;not a=", "a", "%");
    next("bits a4;a=a", "[", ".", ";");
    next("bits a4;a=a[", "0", "1", "3");
    next("bits a4;a=a[3", ":");
    next("bits a4;a=a[3:", "0", "1", "3");
    next("bits a4;a=a[3:0", "]");
    next("bits a4;a=a[3:0]", ".", ";");
    next("bits a4;a=a[3:1]", ".");
    next("bits a4;a=a.", "a", "%");
    next("bits a4;a=a.a", "[", ".");
    next("%", "0", "1", "01", "0101");
    next("%0101", ".", "=");
    next("%0101=%", "0", "1", "01", "0101");
    next("%0101=%0101", ".", ";");
    next("%0101=%010", ".");
  }

  private static void textEnds() {
    Run.sentence("or the length of the text if the text ends inside a declaration or statement");
    for (int offset = 0; offset <= WHOLE.length(); offset++) {
      if (!isBetweenTokens(offset)) continue;
      String begin = WHOLE.substring(0, offset);
      boolean isOutside = offset == 0 || WHOLE.charAt(offset - 1) == ';';
      for (int spaces = 0; spaces < 3; spaces++) {
        String text = begin + Run.times(" ", spaces);
        if (!isOutside) Run.refused(text, text.length());
        else Run.valid(text, offset < 25 ? 0 : offset < 40 ? 1 : offset < 50 ? 2 : 3);
      }
    }
    Run.refused("bit", 0);
    Run.refused("bits a4;no", 8);
    Run.refused(Run.times(" ", 196) + "bits", 200);
    Run.refused(Run.times(" ", 199) + "%", 200);
  }
}
