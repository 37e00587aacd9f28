/** The promises of the document one by one: ordinary inputs, edges and wrong inputs. */
public final class PromiseTests {
  private static final int INVALID = -1;
  private static final int ILLEGAL = -2;
  private static final int FULL = -3;
  private static final int NONE = -9;
  private static int wrong = 0;
  private static String part = "";

  private static void due(String what, int got, int want) {
    if (got != want) {
      wrong++;
      System.out.println(part + ": " + what + " answered " + got + ", due is " + want);
    }
  }

  private static SliceSolver type(SliceSolver x, String text) {
    for (int i = 0; i < text.length(); i++) x.append(text.charAt(i));
    return x;
  }

  private static SliceSolver loaded(String text) {
    SliceSolver x = type(new SliceSolver(), text);
    int got = x.load();
    if (got < 0) due("load() of " + text, got, 0);
    return x;
  }

  private static int loadOf(String text) {
    return type(new SliceSolver(), text).load();
  }

  private static void position(String text, int position) {
    SliceSolver x = type(new SliceSolver(), text);
    due("load() of \"" + text + "\"", x.load(), -10 - position);
    due("the text after load() of \"" + text + "\"", x.clearText(), text.length());
    due("undoDepth() after load() of \"" + text + "\"", x.undoDepth(), 0);
  }

  private static void valid(String text, int statements) {
    due("load() of \"" + text + "\"", loadOf(text), statements);
  }

  private static String times(String text, int n) {
    StringBuilder all = new StringBuilder();
    for (int i = 0; i < n; i++) all.append(text);
    return all.toString();
  }

  public static void main(String[] args) {
    part = "examples"; examples();
    part = "promise 1"; newObject();
    part = "promise 2"; append();
    part = "promise 3"; clearText();
    part = "promise 4"; load(); tokens(); grammar(); limits();
    part = "promise 5"; removeEquation();
    part = "promise 6"; removeDisequation();
    part = "promises 7 to 9"; counts();
    part = "promises 10 to 12"; slices();
    part = "promises 13, 14"; classes();
    part = "promises 15 to 17"; conflicts();
    part = "promises 18 to 20"; bits();
    part = "promises 21 to 23"; models();
    part = "promise 24"; implied();
    part = "promises 25, 26"; undo();
    part = "promises 27, 28"; snapshots();
    System.out.println(wrong == 0 ? "all answers are as due" : wrong + " answers are not as due");
    if (wrong != 0) System.exit(1);
  }

  private static void examples() {
    SliceSolver x = new SliceSolver();
    String text = "bits a2;";
    for (int i = 0; i < 8; i++) due("append in example 1", x.append(text.charAt(i)), i + 1);
    due("load()", x.load(), 0);
    due("width(0)", x.width(0), 2);
    due("sliceCount(0)", x.sliceCount(0), 1);
    due("freeBits()", x.freeBits(), 2);
    due("isSatisfiable()", x.isSatisfiable(), 1);
    due("value(0)", x.value(0), 0);
    due("sliceStart(0, 1)", x.sliceStart(0, 1), -1);
    x = new SliceSolver();
    text = "%1=%0;";
    for (int i = 0; i < 6; i++) due("append in example 2", x.append(text.charAt(i)), i + 1);
    due("load()", x.load(), 1);
    due("isConsistent()", x.isConsistent(), 0);
    due("firstConflict()", x.firstConflict(), 0);
    due("conflictSet()", x.conflictSet(), 1);
    due("value(0)", x.value(0), -9);
    due("undo()", x.undo(), 0);
    x = new SliceSolver();
    text = "not %1=%0;";
    for (int i = 0; i < 10; i++) due("append in example 3", x.append(text.charAt(i)), i + 1);
    due("load()", x.load(), 1);
    due("isImplied(0)", x.isImplied(0), 1);
    due("oneBits()", x.oneBits(), 0);
    x = new SliceSolver();
    text = "bits i1;";
    for (int i = 0; i < 8; i++) due("append in example 4", x.append(text.charAt(i)), i + 1);
    due("load()", x.load(), -15);
    due("clearText()", x.clearText(), 8);
    due("equationCount()", x.equationCount(), 0);
  }

  private static void newObject() {
    SliceSolver x = new SliceSolver();
    for (int v = 0; v < 8; v++) {
      due("width", x.width(v), 0);
      due("sliceCount", x.sliceCount(v), 0);
      due("sliceStart", x.sliceStart(v, 0), INVALID);
      due("sliceWidth", x.sliceWidth(v, 0), INVALID);
      due("representative", x.representative(v, 0), INVALID);
      due("fixedBit", x.fixedBit(v, 0), INVALID);
      due("compareBits", x.compareBits(v, 0, v, 0), INVALID);
      due("value", x.value(v), 0);
    }
    due("equationCount", x.equationCount(), 0);
    due("disequationCount", x.disequationCount(), 0);
    due("classCount", x.classCount(), 0);
    due("isConsistent", x.isConsistent(), 1);
    due("firstConflict", x.firstConflict(), NONE);
    due("conflictSet", x.conflictSet(), NONE);
    due("freeBits", x.freeBits(), 0);
    due("isSatisfiable", x.isSatisfiable(), 1);
    due("oneBits", x.oneBits(), 0);
    due("isImplied", x.isImplied(0), INVALID);
    due("removeEquation", x.removeEquation(0), INVALID);
    due("removeDisequation", x.removeDisequation(0), INVALID);
    due("undo", x.undo(), ILLEGAL);
    due("undoDepth", x.undoDepth(), 0);
    due("restore(0)", x.restore(0), ILLEGAL);
    due("restore(1)", x.restore(1), ILLEGAL);
    due("clearText", x.clearText(), 0);
    due("INVALID_ARGUMENT", SliceSolver.INVALID_ARGUMENT, INVALID);
    due("ILLEGAL_STATE", SliceSolver.ILLEGAL_STATE, ILLEGAL);
    due("CAPACITY_EXCEEDED", SliceSolver.CAPACITY_EXCEEDED, FULL);
    due("NONE", SliceSolver.NONE, NONE);
  }

  private static void append() {
    SliceSolver x = new SliceSolver();
    due("append(-1)", x.append(-1), INVALID);
    due("append(256)", x.append(256), INVALID);
    due("append(MAX)", x.append(Integer.MAX_VALUE), INVALID);
    due("append(MIN)", x.append(Integer.MIN_VALUE), INVALID);
    due("append(0)", x.append(0), 1);
    due("append(255)", x.append(255), 2);
    for (int i = 3; i <= 200; i++) due("append(32)", x.append(32), i);
    due("append of a 201st", x.append(32), FULL);
    due("append of a wrong 201st", x.append(-1), INVALID);
    due("append of a wrong 201st", x.append(256), INVALID);
    due("clearText", x.clearText(), 200);
    due("append after clearText", x.append(97), 1);
    x = type(new SliceSolver(), times(" ", 200));
    due("load of 200 spaces", x.load(), 0);
    due("append after load", x.append(97), 1);
  }

  private static void clearText() {
    SliceSolver x = type(new SliceSolver(), "bits a2;");
    due("clearText", x.clearText(), 8);
    due("clearText twice", x.clearText(), 0);
    type(x, "bits b3;");
    due("load", x.load(), 0);
    due("width(0)", x.width(0), 0);
    due("width(1)", x.width(1), 3);
    due("clearText after load", x.clearText(), 0);
    type(x, "bits c");
    due("load", x.load(), -16);
    due("clearText after a failed load", x.clearText(), 6);
    due("width(1)", x.width(1), 3);
    due("undoDepth", x.undoDepth(), 1);
  }

  private static void load() {
    SliceSolver x = loaded("bits a4; bits b4; a=b; not a=%0000;");
    due("equationCount", x.equationCount(), 1);
    due("disequationCount", x.disequationCount(), 1);
    type(x, "a=a;");
    due("load of an undeclared name", x.load(), -10);
    due("equationCount after a failed load", x.equationCount(), 1);
    due("width after a failed load", x.width(1), 4);
    due("value after a failed load", x.value(1), 1);
    due("append behind the kept text", x.append(59), 5);
    x.clearText();
    type(x, "bits c3;");
    due("load", x.load(), 0);
    due("width(0) of the new problem", x.width(0), 0);
    due("width(2) of the new problem", x.width(2), 3);
    due("equationCount of the new problem", x.equationCount(), 0);
    due("disequationCount of the new problem", x.disequationCount(), 0);
    due("load of an empty text", x.load(), 0);
    due("width(2) of an empty problem", x.width(2), 0);
    due("undoDepth", x.undoDepth(), 3);
    type(x, "bits a");
    due("load of the first half", x.load(), -16);
    type(x, "7;");
    due("load of both halves", x.load(), 0);
    due("width(0)", x.width(0), 7);
    String whole = "bits a4;bits b4;not a[3:2].%01=b;a=b;";
    for (int end = 0; end <= whole.length(); end++) {
      String begin = whole.substring(0, end);
      x = type(loaded(whole), begin);
      due("load of \"" + begin + "\" after a longer text", x.load(), loadOf(begin));
    }
  }

  private static void tokens() {
    valid("", 0);
    valid("   ", 0);
    valid("bits a 16;", 0);
    position("bits a 1 6;", 9);
    valid(" bits  h 16 ; % 01 = h [ 9 : 8 ] ; not  h[0:0]. %1=h[ 1:0 ];", 2);
    valid("bits a4;bits b4;a=b;not a=b;a=%0.%101;", 3);
    position("bitsa4;", 0);
    position("bits ab4;", 5);
    position("bits a4;nota=a;", 8);
    position("bits a4;not  nota=a;", 13);
    position("bits bits4;", 5);
    position("bits not4;", 5);
    position("bits i4;", 5);
    position("bits z4;", 5);
    position("bits az4;", 5);
    position("bits za4;", 5);
    position("bits a{4;", 6);
    position("bits a`4;", 6);
    position("bits A4;", 5);
    position("Bits a4;", 0);
    position("bit a4;", 0);
    position("bi", 0);
    position("\tbits a4;", 0);
    position("bits\na4;", 4);
    position("bits a4;a=a\u0000;", 11);
    position("bits a4;a=a\u00ff;", 11);
    position("bits a4;a=a{", 11);
    position("bits a4;a=a`", 11);
    position("bits a4;a=a/", 11);
    position("bits a4;;", 8);
    position(";", 0);
    position("=", 0);
    position("1", 0);
    position("[", 0);
    position("%", 1);
    position("% ", 2);
    position("%;", 1);
    position("%1 0=%10;", 3);
    position("%1a=%10;", 2);
    position("%%1=%1;", 1);
  }

  private static void grammar() {
    position("bits", 4);
    position("bits  ", 6);
    position("bits a", 6);
    position("bits a4", 7);
    position("bits a4 ", 8);
    position("bits a4;a", 9);
    position("bits a4;a=", 10);
    position("bits a4;a=a", 11);
    position("bits a4;a=a  ", 13);
    position("bits a4;a[", 10);
    position("bits a4;a[3", 11);
    position("bits a4;a[3:", 12);
    position("bits a4;a[3:2", 13);
    position("bits a4;a.", 10);
    position("not", 3);
    position("bits a;", 6);
    position("bits 4;", 5);
    position("bits a0;", 6);
    position("bits a00;", 6);
    position("bits a01;", 6);
    position("bits a17;", 6);
    position("bits a016;", 6);
    position("bits a100;", 6);
    position("bits a99999999999999999999;", 6);
    position("bits a4.", 7);
    position("bits a4 4;", 8);
    position("bits a4;bits a4;", 13);
    position("bits a4;bits a5;", 13);
    position("a=a;bits a4;", 0);
    position("bits a4;a=b;bits b4;", 10);
    position("bits a4;not b=a;", 12);
    position("not not", 4);
    position("not bits", 4);
    position("not;", 3);
    position("bits a4;a;", 9);
    position("bits a4;a=a=a;", 11);
    position("bits a4;=a;", 8);
    position("bits a4;a=;", 10);
    position("bits a4;a..a=a;", 10);
    position("bits a4;.a=a;", 8);
    position("bits a4;a a=a;", 10);
    position("bits a4;a[4:0]=a;", 10);
    position("bits a4;a[03:0]=a;", 10);
    position("bits a4;a[3:4]=a;", 12);
    position("bits a4;a[2:3]=a;", 12);
    position("bits a4;a[3:00]=a;", 12);
    position("bits a4;a[3]=a;", 11);
    position("bits a4;a[3.0]=a;", 11);
    position("bits a4;a[:0]=a;", 10);
    position("bits a4;a[3:]=a;", 12);
    position("bits a4;a[3:0:0]=a;", 13);
    position("bits a4;a[3:0=a;", 13);
    position("bits a4;a[3:0][1:0]=a;", 14);
    position("bits a4;a[100:0]=a;", 10);
    position("%1[0:0]=%1;", 2);
    position("%2=%1;", 1);
    position("%012=%1;", 1);
    position("%1=%3;", 4);
    valid("%0=%1;", 1);
    valid("not%0=%1;", 1);
    valid("bits a16;a[15:10]=a[9:4];", 1);
  }

  private static void limits() {
    valid("%0101010101010101=%1111111111111111;", 1);
    position("%01010101010101010=%1;", 1);
    position("%01010101010101010", 1);
    valid("bits a8;a.a=a.a;", 1);
    position("bits a8;a.a.%1=a;", 14);
    position("bits a8;a.a.%1 = a;", 15);
    position("bits a8;a.a.%1;", 14);
    position("bits a8;a.a.%1", 14);
    position("bits a8;not a.a.%1=a.a.%1;", 18);
    position("bits a8;a.a=a.a.%1;", 18);
    position("bits a8;a=a.a.a.a.a.a.a.a;", 25);
    position("bits a8;" + times("a.", 95) + "a=", 8 + 191);
    position("bits a8;a=a.a;", 13);
    position("bits a8;a=a[6:0] ;", 17);
    position("bits a8;not a.a=a;", 17);
    valid(times("%1=%1;", 10), 10);
    position(times("%1=%1;", 10) + "%1=%1;", 60);
    position(times("%1=%1;", 10) + " %1=%1;", 61);
    position("bits a1;" + times("%1=%1;", 10) + "a=a;", 68);
    position(times("%1=%1;", 10) + "h=%1;", 60);
    valid(times("not%1=%1;", 3), 3);
    position(times("not%1=%1;", 3) + "not%1=%1;", 27);
    position(times("not%1=%1;", 3) + " not", 28);
    valid(times("%1=%1;", 10) + times("not%1=%1;", 3) + "bits a1;", 13);
    valid(times("not%1=%1;", 3) + times("%1=%1;", 10), 13);
    position(times("%1=%1;", 10) + times("not%1=%1;", 3) + "bits", 91);
    valid(times(" ", 192) + "bits a1;", 0);
    position(times(" ", 196) + "bits", 200);
    position(times(" ", 199) + "x", 199);
  }

  private static void removeEquation() {
    SliceSolver x = loaded("bits a4;bits b4;a=%0001;b=%0010;a[0:0]=%0;not a=b;");
    due("removeEquation(3)", x.removeEquation(3), INVALID);
    due("removeEquation(-1)", x.removeEquation(-1), INVALID);
    due("removeEquation(MAX)", x.removeEquation(Integer.MAX_VALUE), INVALID);
    due("removeEquation(MIN)", x.removeEquation(Integer.MIN_VALUE), INVALID);
    due("undoDepth", x.undoDepth(), 1);
    due("firstConflict", x.firstConflict(), 2);
    due("conflictSet", x.conflictSet(), 5);
    due("removeEquation(1)", x.removeEquation(1), 2);
    due("firstConflict", x.firstConflict(), 1);
    due("conflictSet", x.conflictSet(), 3);
    due("removeEquation(0)", x.removeEquation(0), 1);
    due("isConsistent", x.isConsistent(), 1);
    due("fixedBit(0, 0)", x.fixedBit(0, 0), 0);
    due("fixedBit(0, 1)", x.fixedBit(0, 1), NONE);
    due("disequationCount", x.disequationCount(), 1);
    due("width(1)", x.width(1), 4);
    due("removeEquation(0)", x.removeEquation(0), 0);
    due("removeEquation(0)", x.removeEquation(0), INVALID);
    due("undoDepth", x.undoDepth(), 4);
    x = loaded("bits a4;a[3:2]=%11;a[0:0]=%1;a[1:1]=%0;");
    due("removeEquation(2)", x.removeEquation(2), 2);
    due("value", x.value(0), 13);
    due("sliceCount", x.sliceCount(0), 3);
    due("removeEquation(0)", x.removeEquation(0), 1);
    due("value", x.value(0), 1);
    due("sliceCount", x.sliceCount(0), 2);
  }

  private static void removeDisequation() {
    SliceSolver x = loaded("bits a4;bits b4;bits c4;not a=%0000;not b=%0000;not %1=%0;a=c;");
    due("removeDisequation(3)", x.removeDisequation(3), INVALID);
    due("removeDisequation(-1)", x.removeDisequation(-1), INVALID);
    due("removeDisequation(MAX)", x.removeDisequation(Integer.MAX_VALUE), INVALID);
    due("oneBits", x.oneBits(), 2);
    due("isImplied(2)", x.isImplied(2), 1);
    due("removeDisequation(0)", x.removeDisequation(0), 2);
    due("isImplied(0)", x.isImplied(0), 0);
    due("isImplied(1)", x.isImplied(1), 1);
    due("isImplied(2)", x.isImplied(2), INVALID);
    due("value(0)", x.value(0), 0);
    due("value(1)", x.value(1), 1);
    due("equationCount", x.equationCount(), 1);
    due("removeDisequation(1)", x.removeDisequation(1), 1);
    due("value(1)", x.value(1), 1);
    due("removeDisequation(0)", x.removeDisequation(0), 0);
    due("value(1)", x.value(1), 0);
    due("removeDisequation(0)", x.removeDisequation(0), INVALID);
    due("undoDepth", x.undoDepth(), 4);
  }

  private static void counts() {
    SliceSolver x = loaded("bits a1;bits h16;bits c9;h=h;a=a;not c=c;");
    due("width(0)", x.width(0), 1);
    due("width(1)", x.width(1), 0);
    due("width(2)", x.width(2), 9);
    due("width(7)", x.width(7), 16);
    due("width(8)", x.width(8), INVALID);
    due("width(-1)", x.width(-1), INVALID);
    due("width(MAX)", x.width(Integer.MAX_VALUE), INVALID);
    due("width(MIN)", x.width(Integer.MIN_VALUE), INVALID);
    due("equationCount", x.equationCount(), 2);
    due("disequationCount", x.disequationCount(), 1);
  }

  private static void slices() {
    SliceSolver x = loaded("bits a8;bits b8;bits c8;a[6:2]=b[4:0];b=c;not a[7:7]=c[0:0];");
    due("sliceCount(0)", x.sliceCount(0), 3);
    due("sliceStart(0, 0)", x.sliceStart(0, 0), 0);
    due("sliceStart(0, 1)", x.sliceStart(0, 1), 2);
    due("sliceStart(0, 2)", x.sliceStart(0, 2), 7);
    due("sliceStart(0, 3)", x.sliceStart(0, 3), INVALID);
    due("sliceStart(0, -1)", x.sliceStart(0, -1), INVALID);
    due("sliceWidth(0, 0)", x.sliceWidth(0, 0), 2);
    due("sliceWidth(0, 1)", x.sliceWidth(0, 1), 5);
    due("sliceWidth(0, 2)", x.sliceWidth(0, 2), 1);
    due("sliceWidth(0, 3)", x.sliceWidth(0, 3), INVALID);
    due("sliceWidth(0, -1)", x.sliceWidth(0, -1), INVALID);
    due("sliceCount(1)", x.sliceCount(1), 2);
    due("sliceCount(2)", x.sliceCount(2), 2);
    due("sliceStart(2, 1)", x.sliceStart(2, 1), 5);
    due("sliceWidth(2, 1)", x.sliceWidth(2, 1), 3);
    due("sliceCount(3)", x.sliceCount(3), 0);
    due("sliceCount(8)", x.sliceCount(8), INVALID);
    due("sliceCount(-1)", x.sliceCount(-1), INVALID);
    due("sliceStart(8, 0)", x.sliceStart(8, 0), INVALID);
    due("sliceStart(-1, 0)", x.sliceStart(-1, 0), INVALID);
    due("sliceStart(3, 0)", x.sliceStart(3, 0), INVALID);
    due("sliceStart(0, MAX)", x.sliceStart(0, Integer.MAX_VALUE), INVALID);
    due("sliceWidth(8, 0)", x.sliceWidth(8, 0), INVALID);
    due("sliceWidth(-1, 0)", x.sliceWidth(-1, 0), INVALID);
    due("sliceWidth(3, 0)", x.sliceWidth(3, 0), INVALID);
    due("slices of one constant", loaded("bits a4;a=%1010;").sliceCount(0), 1);
    due("slices of two constants", loaded("bits a4;a=%10.%10;").sliceCount(0), 2);
    due("slices of a part against a constant", loaded("bits a4;a[1:1]=%1;").sliceCount(0), 3);
    due("slices of a disequation", loaded("bits a4;not a[2:1]=%10;").sliceCount(0), 1);
    due("slices of an overlap", loaded("bits a16;a[15:1]=a[14:0];").sliceCount(0), 16);
    due("slices of an overlap by 4", loaded("bits a16;a[15:4]=a[11:0];").sliceCount(0), 4);
    due("slices of an overlap by 6", loaded("bits a16;a[15:6]=a[9:0];").sliceCount(0), 5);
    due("slices of an overlap by 3", loaded("bits a8;a[7:3]=a[4:0];").sliceCount(0), 5);
    due("slices by a chain", loaded("bits a8;bits b8;bits c8;b=c;a=b;c[3:0]=%0000;").sliceCount(0), 2);
    due("slices of a doubled name", loaded("bits a8;bits b4;a=b.b;b[0:0]=%1;").sliceCount(0), 4);
  }

  private static void classes() {
    SliceSolver x = loaded("bits b4;bits a4;bits c8;c=a.b;a[0:0]=b[3:3];");
    due("representative(0, 0)", x.representative(0, 0), 0);
    due("representative(0, 1)", x.representative(0, 1), 1);
    due("sliceCount(1)", x.sliceCount(1), 2);
    due("representative(1, 0)", x.representative(1, 0), 16);
    due("representative(1, 1)", x.representative(1, 1), 0);
    due("sliceCount(2)", x.sliceCount(2), 4);
    due("representative(2, 0)", x.representative(2, 0), 16);
    due("representative(2, 1)", x.representative(2, 1), 0);
    due("representative(2, 2)", x.representative(2, 2), 0);
    due("representative(2, 3)", x.representative(2, 3), 1);
    due("representative(2, 4)", x.representative(2, 4), INVALID);
    due("representative(2, -1)", x.representative(2, -1), INVALID);
    due("representative(3, 0)", x.representative(3, 0), INVALID);
    due("representative(8, 0)", x.representative(8, 0), INVALID);
    due("representative(-1, 0)", x.representative(-1, 0), INVALID);
    due("classCount", x.classCount(), 3);
    x = loaded("bits a2;bits b2;bits c2;a=%01;b=%01;");
    due("classes that only a constant has in common", x.classCount(), 3);
    due("representative(1, 0)", x.representative(1, 0), 16);
    x = loaded("bits a2;bits b2;a=%01;b=a;b=%11;");
    due("classes of inconsistent equations", x.classCount(), 1);
    due("representative(1, 0)", x.representative(1, 0), 0);
    x = loaded("bits g2;bits h16;h[15:14]=h[13:12];g=h[1:0];");
    due("representative(7, 0)", x.representative(7, 0), 96);
    due("representative(7, 3)", x.representative(7, 3), 114);
    due("classCount", x.classCount(), 3);
    due("classes of an overlap", loaded("bits a16;a[15:4]=a[11:0];").classCount(), 1);
  }

  private static void conflicts() {
    SliceSolver x = loaded("bits a3;bits b3;bits c3;a=b;b=c;a=%101;c[0:0]=%0;b[2:2].c[1:1]=%11;");
    due("isConsistent", x.isConsistent(), 0);
    due("firstConflict", x.firstConflict(), 3);
    due("conflictSet", x.conflictSet(), 23);
    x = loaded("bits a1;%1=%0;a=%1;a=%0;");
    due("firstConflict", x.firstConflict(), 0);
    due("conflictSet", x.conflictSet(), 6);
    x = loaded("bits a4;a=%0110;a[2:1]=%11;");
    due("isConsistent", x.isConsistent(), 1);
    due("firstConflict", x.firstConflict(), NONE);
    due("conflictSet", x.conflictSet(), NONE);
    x = loaded("bits a2;%1=%1;%1=%1;%1=%1;%1=%1;%1=%1;%1=%1;%1=%1;%1=%1;a=%10;a=%11;");
    due("firstConflict", x.firstConflict(), 9);
    due("conflictSet", x.conflictSet(), 768);
    x = loaded("bits a2;not a=a;");
    due("isConsistent without a model", x.isConsistent(), 1);
    due("isSatisfiable", x.isSatisfiable(), 0);
    x = loaded("bits a2;a[1:1]=a[0:0];a=%10;");
    due("conflict within a variable", x.isConsistent(), 0);
    due("firstConflict", x.firstConflict(), 1);
    due("conflictSet", x.conflictSet(), 3);
    x = loaded("bits a2;a.%1=%1.a;a[0:0]=%0;");
    due("conflict by a shift", x.firstConflict(), 1);
  }

  private static void bits() {
    SliceSolver x = loaded("bits a4;bits b4;bits c2;a[3:2]=%10;b[1:0]=a[3:2];c=b[3:2];");
    due("fixedBit(0, 3)", x.fixedBit(0, 3), 1);
    due("fixedBit(0, 2)", x.fixedBit(0, 2), 0);
    due("fixedBit(0, 1)", x.fixedBit(0, 1), NONE);
    due("fixedBit(1, 1)", x.fixedBit(1, 1), 1);
    due("fixedBit(1, 0)", x.fixedBit(1, 0), 0);
    due("fixedBit(0, 4)", x.fixedBit(0, 4), INVALID);
    due("fixedBit(0, -1)", x.fixedBit(0, -1), INVALID);
    due("fixedBit(8, 0)", x.fixedBit(8, 0), INVALID);
    due("fixedBit(-1, 0)", x.fixedBit(-1, 0), INVALID);
    due("fixedBit(3, 0)", x.fixedBit(3, 0), INVALID);
    due("compareBits(0, 3, 1, 1)", x.compareBits(0, 3, 1, 1), 1);
    due("compareBits(0, 3, 0, 2)", x.compareBits(0, 3, 0, 2), 0);
    due("compareBits(0, 3, 0, 1)", x.compareBits(0, 3, 0, 1), 2);
    due("compareBits(0, 1, 0, 3)", x.compareBits(0, 1, 0, 3), 2);
    due("compareBits(0, 1, 0, 1)", x.compareBits(0, 1, 0, 1), 1);
    due("compareBits(0, 1, 0, 0)", x.compareBits(0, 1, 0, 0), 2);
    due("compareBits(2, 0, 1, 2)", x.compareBits(2, 0, 1, 2), 1);
    due("compareBits(2, 0, 1, 3)", x.compareBits(2, 0, 1, 3), 2);
    due("compareBits(2, 2, 1, 3)", x.compareBits(2, 2, 1, 3), INVALID);
    due("compareBits(1, 3, 2, 2)", x.compareBits(1, 3, 2, 2), INVALID);
    due("compareBits(1, 3, 2, -1)", x.compareBits(1, 3, 2, -1), INVALID);
    due("compareBits(1, 3, 8, 0)", x.compareBits(1, 3, 8, 0), INVALID);
    due("compareBits(-1, 0, 0, 0)", x.compareBits(-1, 0, 0, 0), INVALID);
    due("freeBits", x.freeBits(), 4);
    x = loaded("bits a2;bits b2;a=%01;b=%01;not a=b;");
    due("bits of two classes with one constant", x.compareBits(0, 0, 1, 0), 1);
    due("bits of two classes with two constants", x.compareBits(0, 0, 1, 1), 0);
    due("freeBits", x.freeBits(), 0);
    x = loaded("bits a2;bits b2;not a[0:0]=b[0:0];not a=%00;");
    due("compareBits looks at equations alone", x.compareBits(0, 0, 1, 0), 2);
    due("freeBits", x.freeBits(), 4);
    x = loaded("bits a2;%1=%0;");
    due("fixedBit", x.fixedBit(0, 0), ILLEGAL);
    due("fixedBit of no bit", x.fixedBit(0, 2), INVALID);
    due("compareBits", x.compareBits(0, 0, 0, 1), ILLEGAL);
    due("compareBits of no bit", x.compareBits(0, 0, 0, 2), INVALID);
    due("compareBits of no bit", x.compareBits(0, 2, 0, 0), INVALID);
    due("freeBits", x.freeBits(), ILLEGAL);
    String all = "";
    for (char name = 'a'; name <= 'h'; name++) all += "bits " + name + "16;";
    due("freeBits of all bits", loaded(all).freeBits(), 128);
  }

  private static void model(String text, int ones, int... values) {
    SliceSolver x = loaded(text);
    due("isSatisfiable of " + text, x.isSatisfiable(), ones < 0 ? 0 : 1);
    due("oneBits of " + text, x.oneBits(), ones < 0 ? NONE : ones);
    for (int v = 0; v < 8; v++) {
      int want = ones < 0 ? NONE : v < values.length ? values[v] : 0;
      due("value(" + v + ") of " + text, x.value(v), want);
    }
    due("value(8) of " + text, x.value(8), INVALID);
    due("value(-1) of " + text, x.value(-1), INVALID);
  }

  private static void models() {
    model("bits a16;a=%1111111111111111;", 0, 65535);
    model("bits a4;not a=%0000;", 1, 1);
    model("bits a4;not a=%0001;", 0, 0);
    model("bits a4;not a=%0000;not a=%0001;", 1, 2);
    model("bits a2;not a=%00;not a=%01;not a=%10;", 2, 3);
    model("bits a1;not a=%0;not a=%1;", -1);
    model("bits a1;bits b1;bits c1;not a=b;not b=c;not a=c;", -1);
    model("bits a1;bits b1;bits c1;not a=b;not b=c;", 1, 0, 1, 0);
    model("bits a2;bits b2;bits c2;not a=b;not b=c;not a=c;", 2, 1, 2, 0);
    model("bits a2;bits b2;bits c2;not a=%00;not b=%00;not c=%00;", 3, 1, 1, 1);
    model("bits a4;not a=a;", -1);
    model("bits a4;a=%0000;not a=%0000;", -1);
    model("bits a4;%1=%0;not a=%0000;", -1);
    model("bits a2;bits b2;a=b;not b=%00;", 1, 1, 1);
    model("bits a4;bits b4;a[3:2]=b[1:0];b[3:2]=%10;not b=%1000;", 1, 4, 9);
    model("bits a2;bits b2;not a.b=b.a;", 1, 1, 0);
    model("bits a1;not a.a=%01;", 0, 0);
    model("bits a3;not a[0:0]=%0;not a[1:1]=%0;not a[2:2]=%0;", 3, 7);
    model("bits a3;not a[1:0]=%00;not a[2:1]=%00;not a[2:2].a[0:0]=%00;", 2, 3);
    model("bits a1;bits b1;bits c1;not a.b=%00;not b.c=%00;", 1, 0, 1, 0);
    model("bits a1;bits b1;bits c1;bits d1;not a.b=%00;not c.d=%00;", 2, 1, 0, 1, 0);
    model("bits h3;not h[2:1]=%00;", 1, 0, 0, 0, 0, 0, 0, 0, 2);
    model("bits b2;bits a2;not b.a=%0000;", 1, 1, 0);
    model("not %10=%01;", 0);
    model("not %10=%10;", -1);
  }

  private static void implied() {
    SliceSolver x = loaded("bits a2;bits b2;a[0:0]=%1;b[0:0]=%0;not a=b;not a=%11;not b=%01;");
    due("isImplied(0)", x.isImplied(0), 1);
    due("isImplied(1)", x.isImplied(1), 0);
    due("isImplied(2)", x.isImplied(2), 1);
    due("isImplied(3)", x.isImplied(3), INVALID);
    due("isImplied(-1)", x.isImplied(-1), INVALID);
    due("isImplied(MAX)", x.isImplied(Integer.MAX_VALUE), INVALID);
    x = loaded("bits a1;bits b1;not a.a=%01;not a.b.a=b.%01;not a=a;");
    due("a bit that would be 0 and 1", x.isImplied(0), 1);
    due("a chain that would be 0 and 1", x.isImplied(1), 1);
    due("a disequation that never holds", x.isImplied(2), 0);
    due("isSatisfiable", x.isSatisfiable(), 0);
    x = loaded("bits a1;%1=%0;not %1=%0;");
    due("isImplied of inconsistent equations", x.isImplied(0), ILLEGAL);
    due("isImplied of no disequation", x.isImplied(1), INVALID);
    x = loaded("bits a2;not a=%00;not a=%01;not a=%10;");
    due("isImplied looks at equations alone", x.isImplied(2), 0);
    due("fixedBit after isImplied", x.fixedBit(0, 0), NONE);
    due("freeBits after isImplied", x.freeBits(), 2);
  }

  private static void undo() {
    SliceSolver x = loaded("bits a4;bits b4;a=b;a=%0001;not a=%0000;");
    due("undoDepth", x.undoDepth(), 1);
    due("removeEquation", x.removeEquation(1), 1);
    due("removeDisequation", x.removeDisequation(0), 0);
    due("undoDepth", x.undoDepth(), 3);
    due("value(1)", x.value(1), 0);
    due("undo", x.undo(), 2);
    due("disequationCount", x.disequationCount(), 1);
    due("oneBits", x.oneBits(), 1);
    type(x, "bits");
    due("undo", x.undo(), 1);
    due("the text is not part of the state", x.clearText(), 4);
    due("equationCount", x.equationCount(), 2);
    due("oneBits", x.oneBits(), 0);
    due("fixedBit", x.fixedBit(1, 0), 1);
    due("undo", x.undo(), 0);
    due("width(0)", x.width(0), 0);
    due("equationCount", x.equationCount(), 0);
    due("undo", x.undo(), ILLEGAL);
    due("undoDepth", x.undoDepth(), 0);
    x = new SliceSolver();
    for (int width = 1; width <= 8; width++) {
      type(x, "bits a" + width + ";");
      x.load();
      due("undoDepth", x.undoDepth(), Math.min(width, 6));
    }
    for (int left = 5; left >= 0; left--) {
      due("undo", x.undo(), left);
      due("width after undo", x.width(0), left + 2);
    }
    due("undo", x.undo(), ILLEGAL);
    due("width after all undo", x.width(0), 2);
    type(x, "bits a9;");
    x.load();
    due("undo", x.undo(), 0);
    due("width", x.width(0), 2);
  }

  private static void snapshots() {
    SliceSolver x = loaded("bits a4;bits b4;a=b;a=%0001;not a=%0000;");
    for (int slot : new int[] {-1, 2, Integer.MAX_VALUE, Integer.MIN_VALUE}) {
      due("save(" + slot + ")", x.save(slot), INVALID);
      due("restore(" + slot + ")", x.restore(slot), INVALID);
    }
    due("restore(0)", x.restore(0), ILLEGAL);
    due("undoDepth after a failed restore", x.undoDepth(), 1);
    due("save(0)", x.save(0), 3);
    due("restore(1)", x.restore(1), ILLEGAL);
    due("undoDepth after save", x.undoDepth(), 1);
    due("removeEquation", x.removeEquation(0), 1);
    due("save(1)", x.save(1), 2);
    due("load", x.load(), 0);
    type(x, "bi");
    due("restore(0)", x.restore(0), 3);
    due("the text stays", x.clearText(), 2);
    due("undoDepth after restore", x.undoDepth(), 0);
    due("undo after restore", x.undo(), ILLEGAL);
    due("value(1)", x.value(1), 1);
    due("removeEquation", x.removeEquation(1), 1);
    due("removeDisequation", x.removeDisequation(0), 0);
    due("restore(1)", x.restore(1), 2);
    due("equationCount", x.equationCount(), 1);
    due("compareBits", x.compareBits(0, 0, 1, 0), 2);
    due("restore(0), which is kept", x.restore(0), 3);
    due("compareBits", x.compareBits(0, 0, 1, 0), 1);
    due("undo", x.undo(), ILLEGAL);
    x = new SliceSolver();
    due("save of a new state", x.save(1), 0);
    type(x, "bits a4;");
    x.load();
    due("restore of a new state", x.restore(1), 0);
    due("width", x.width(0), 0);
    type(x, "bits a5;");
    x.load();
    due("save over a snapshot", x.save(1), 0);
    x.load();
    due("restore", x.restore(1), 0);
    due("width", x.width(0), 5);
  }
}
