/** The boundary cases of the questions, of undo() and of the snapshots, sentence by sentence. */
public final class StateBoundaryTests {
  /** All variables with all bits: a wrong index would meet a bit of a neighbour. */
  private static final String ALL = "bits a16;bits b16;bits c16;bits d16;bits e16;bits f16;bits g16;bits h16;";
  /** Ten equations, each of which is needed for the conflict. */
  private static final String CHAIN = "bits a2;bits b1;bits c1;bits d1;bits e1;bits f1;bits g1;bits h1;"
      + "a[0:0]=%0;a[0:0]=a[1:1];a[1:1]=b;b=c;c=d;d=e;e=f;f=g;g=h;h=%1;";

  public static void main(String[] args) {
    newObject();
    allLimits();
    variables();
    undeclared();
    bitNumbers();
    sliceNumbers();
    edgesOfParts();
    marks();
    classes();
    conflicts();
    removedEquations();
    removedDisequations();
    fixedBits();
    comparedBits();
    freeBits();
    models();
    noModel();
    implied();
    undo();
    seventhState();
    slots();
    snapshots();
    Run.end();
  }

  /** Numbers that are none of 0 to count - 1, among them those that a shift or a cast would fold. */
  private static int[] outside(int count) {
    return new int[] {-1, count, -2, count + 1, count + 8, count + 15, count + 16, 32, 33, 64, 128, 256, 65536, 1 << 30,
        (1 << 31) + 1, -8, -16, -32, -128, -256, -65536, Integer.MIN_VALUE, Integer.MAX_VALUE};
  }

  private static void newObject() {
    Run.sentence("Creates a solver without variables and statements, with an empty text.");
    Run run = new Run();
    for (int v = 0; v < 8; v++) {
      run.due(0, "width", v).due(0, "sliceCount", v).due(0, "value", v);
      run.due(Run.INVALID, "sliceStart", v, 0).due(Run.INVALID, "sliceWidth", v, 0);
      run.due(Run.INVALID, "representative", v, 0).due(Run.INVALID, "fixedBit", v, 0);
      run.due(Run.INVALID, "compareBits", v, 0, v, 0);
    }
    run.due(0, "equationCount").due(0, "disequationCount").due(0, "classCount").due(1, "isConsistent");
    run.due(Run.NONE, "firstConflict").due(Run.NONE, "conflictSet").due(0, "freeBits");
    run.due(1, "isSatisfiable").due(0, "oneBits").due(0, "undoDepth").due(0, "clearText");
    run.due(Run.INVALID, "removeEquation", 0).due(Run.INVALID, "removeDisequation", 0);
    run.due(Run.INVALID, "isImplied", 0).due(Run.ILLEGAL, "undo");
    run.due(Run.ILLEGAL, "restore", 0).due(Run.ILLEGAL, "restore", 1);
  }

  private static void allLimits() {
    Run.sentence("at most 10 equations and at most 3 disequations, whose terms have at most 16 bits");
    String ones = "%1111111111111111";
    Run run = Run.of("bits g16;bits h16;" + "g=h;".repeat(9) + "h=g;" + "not g=h;".repeat(2) + "not h=" + ones + ";");
    run.due(10, "equationCount").due(3, "disequationCount").due(1, "sliceCount", 6).due(1, "sliceCount", 7)
        .due(1, "classCount").due(16, "freeBits").due(0, "isImplied", 2).due(0, "isSatisfiable");
    run.due(13, "save", 1).due(2, "removeDisequation", 0).due(1, "removeDisequation", 0).due(0, "value", 7);
    run.due(9, "removeEquation", 0).due(8, "removeEquation", 8).due(1, "classCount").due(13, "restore", 1);
    run.due(10, "equationCount").due(Run.NONE, "value", 7).due(Run.NONE, "conflictSet");
    Run.of("bits g16;bits h16;" + "g=h;".repeat(8) + "g=" + ones + ";h[15:0]=%0111111111111111;not g=h;not h=" + ones + ";")
        .due(9, "firstConflict").due(896, "conflictSet").due(9, "removeEquation", 9).due(0, "isImplied", 1)
        .due(Run.NONE, "oneBits").due(0, "freeBits");
  }

  // ---- promises 7 to 14

  private static void variables() {
    Run.sentence("INVALID_ARGUMENT if variable is out of range: width, sliceCount, value");
    for (int variable : outside(8)) {
      Run.of(ALL).due(Run.INVALID, "width", variable).due(Run.INVALID, "sliceCount", variable)
          .due(Run.INVALID, "value", variable);
      new Run().due(Run.INVALID, "width", variable).due(Run.INVALID, "sliceCount", variable)
          .due(Run.INVALID, "value", variable);
    }
    Run.sentence("there is no such slice or bit: the variable is out of range");
    for (int variable : outside(8)) {
      Run.of(ALL).due(Run.INVALID, "sliceStart", variable, 0).due(Run.INVALID, "sliceWidth", variable, 0)
          .due(Run.INVALID, "representative", variable, 0).due(Run.INVALID, "fixedBit", variable, 0)
          .due(Run.INVALID, "compareBits", variable, 0, 0, 0).due(Run.INVALID, "compareBits", 0, 0, variable, 0);
    }
    Run.sentence("variable: 0 to 7");
    Run.of(ALL).due(16, "width", 0).due(16, "width", 7).due(1, "sliceCount", 0).due(1, "sliceCount", 7)
        .due(0, "sliceStart", 7, 0).due(16, "sliceWidth", 7, 0).due(112, "representative", 7, 0)
        .due(0, "representative", 0, 0).due(0, "value", 0).due(0, "value", 7);
  }

  private static void undeclared() {
    Run.sentence("a variable that is not declared has no bits");
    for (int v = 0; v < 8; v++) {
      String others = ALL.substring(0, 9 * v) + ALL.substring(9 * v + 9);
      int neighbour = v == 0 ? 1 : v - 1;
      Run.of(others).due(0, "width", v).due(0, "sliceCount", v).due(0, "value", v)
          .due(Run.INVALID, "sliceStart", v, 0).due(Run.INVALID, "sliceWidth", v, 0)
          .due(Run.INVALID, "representative", v, 0).due(Run.INVALID, "fixedBit", v, 0)
          .due(Run.INVALID, "compareBits", v, 0, neighbour, 0).due(Run.INVALID, "compareBits", neighbour, 0, v, 0)
          .due(7, "classCount").due(112, "freeBits").due(16, "width", neighbour);
    }
    Run.sentence("a variable of an earlier problem is not declared any more");
    Run.of("bits a4;a=%1111;").type("bits b4;").due(0, "load").due(0, "width", 0).due(0, "sliceCount", 0)
        .due(0, "value", 0).due(Run.INVALID, "fixedBit", 0, 0).due(1, "classCount").due(4, "freeBits");
  }

  private static void bitNumbers() {
    Run.sentence("The bits of a variable are numbered from 0 to width - 1: fixedBit and compareBits");
    for (int width = 1; width <= 16; width++) {
      String text = "bits a16;bits b" + width + ";bits c16;b=%" + "1".repeat(width) + ";";
      for (int bit : outside(width)) {
        Run.of(text).due(Run.INVALID, "fixedBit", 1, bit).due(Run.INVALID, "compareBits", 1, bit, 1, 0)
            .due(Run.INVALID, "compareBits", 1, 0, 1, bit);
      }
      Run.of(text).due(1, "fixedBit", 1, 0).due(1, "fixedBit", 1, width - 1)
          .due(1, "compareBits", 1, 0, 1, width - 1).due(1, "compareBits", 1, width - 1, 1, 0)
          .due(2, "compareBits", 1, width - 1, 0, 15).due(2, "compareBits", 0, 15, 2, 0);
    }
  }

  private static void sliceNumbers() {
    Run.sentence("INVALID_ARGUMENT if there is no such slice");
    String one = "bits a16;bits b16;bits c16;b=b;";
    String all = "bits a16;bits b16;bits c16;b=%0" + ".%0".repeat(15) + ";";
    for (int slice : outside(1)) noSlice(one, slice);
    for (int slice : outside(16)) noSlice(all, slice);
    for (int slice : outside(2)) noSlice("bits a16;bits b16;bits c16;b[15:15]=%1;", slice);
    Run.sentence("slices, which are numbered from 0 from the least significant slice on");
    Run run = Run.of(all).due(16, "sliceCount", 1).due(18, "classCount");
    for (int slice = 0; slice < 16; slice++) {
      run.due(slice, "sliceStart", 1, slice).due(1, "sliceWidth", 1, slice).due(16 + slice, "representative", 1, slice);
    }
    Run.of("bits h16;h=%0" + ".%0".repeat(15) + ";").due(127, "representative", 7, 15).due(112, "representative", 7, 0);
    Run.of("bits b16;b[15:15]=%1;").due(0, "sliceStart", 1, 0).due(15, "sliceWidth", 1, 0)
        .due(15, "sliceStart", 1, 1).due(1, "sliceWidth", 1, 1);
    Run.of("bits b16;b[0:0]=%1;").due(0, "sliceStart", 1, 0).due(1, "sliceWidth", 1, 0)
        .due(1, "sliceStart", 1, 1).due(15, "sliceWidth", 1, 1);
  }

  private static void noSlice(String text, int slice) {
    Run.of(text).due(Run.INVALID, "sliceStart", 1, slice).due(Run.INVALID, "sliceWidth", 1, slice)
        .due(Run.INVALID, "representative", 1, slice);
  }

  private static void edgesOfParts() {
    Run.sentence("low and high + 1 are cuts of the variable, as far as they are from 1 to width - 1");
    for (int width = 1; width <= 16; width++) {
      for (int high = 0; high < width; high++) {
        for (int low = 0; low <= high; low++) {
          String part = "a[" + high + ":" + low + "]";
          Run run = Run.of("bits a" + width + ";" + part + "=%" + "1".repeat(high - low + 1) + ";");
          int slices = 1 + (low > 0 ? 1 : 0) + (high < width - 1 ? 1 : 0);
          int number = low > 0 ? 1 : 0;
          run.due(slices, "sliceCount", 0).due(slices, "classCount");
          run.due(low, "sliceStart", 0, number).due(high - low + 1, "sliceWidth", 0, number);
          run.due(width - (high - low + 1), "freeBits").due((2 << high) - (1 << low), "value", 0);
          if (low > 0) run.due(low, "sliceWidth", 0, 0);
          if (high < width - 1) run.due(high + 1, "sliceStart", 0, number + 1)
              .due(width - 1 - high, "sliceWidth", 0, number + 1);
          run.due(Run.INVALID, "sliceStart", 0, slices).due(Run.INVALID, "sliceWidth", 0, slices);
        }
      }
    }
    Run.sentence("where only equations matter");
    Run.of("bits a16;not a[8:3]=%101010;not a[0:0]=%1;").due(1, "sliceCount", 0).due(1, "classCount")
        .due(16, "freeBits");
    Run.of("bits a16;a[8:3]=a[8:3];not a[0:0]=%1;").due(3, "sliceCount", 0).due(0, "removeEquation", 0)
        .due(1, "sliceCount", 0);
  }

  private static void marks() {
    Run.sentence("a position p from 1 to the width of its terms less 1");
    Run.of("bits a16;bits b15;bits c1;a=b.c;").due(2, "sliceCount", 0).due(1, "sliceStart", 0, 1)
        .due(1, "sliceCount", 1).due(1, "sliceCount", 2);
    Run.of("bits a16;bits b15;bits c1;c.b=a;").due(2, "sliceCount", 0).due(15, "sliceStart", 0, 1);
    Run.of("bits a1;bits b1;a=b;").due(1, "sliceCount", 0).due(1, "classCount");
    Run.of("bits a16;bits b16;a=b;").due(1, "sliceCount", 0).due(1, "classCount").due(16, "freeBits");
    Run.sentence("or if both bits belong to the same part of a variable and there is a cut between them");
    Run.of("bits a16;bits b16;bits c16;a=b;b=c;c[0:0]=%1;").due(2, "sliceCount", 0).due(1, "sliceStart", 0, 1)
        .due(2, "classCount");
    Run.of("bits a16;bits b16;bits c16;a=b;b=c;c[15:15]=%1;").due(2, "sliceCount", 0).due(15, "sliceStart", 0, 1);
    Run.of("bits a16;bits b4;a[9:6]=b;b[2:2]=%1;").due(5, "sliceCount", 0).due(8, "sliceStart", 0, 2)
        .due(9, "sliceStart", 0, 3).due(10, "sliceStart", 0, 4).due(3, "sliceCount", 1);
    Run.sentence("(bit p - 1 and bit p of the term belong to different parts)");
    Run.of("bits a4;a=%0.%101;").due(2, "sliceCount", 0).due(3, "sliceStart", 0, 1);
    Run.of("bits a4;a=%010.%1;").due(2, "sliceCount", 0).due(1, "sliceStart", 0, 1);
    Run.of("bits a4;bits b4;a=b[3:2].b[1:0];").due(2, "sliceCount", 0).due(2, "sliceCount", 1);
    Run.of("bits a4;bits b4;bits c2;bits d2;c.d=%0101;a=b;").due(1, "sliceCount", 0).due(1, "sliceCount", 1);
    Run.of("bits a4;bits b4;bits c2;bits d2;a=c.d;b=b;").due(2, "sliceCount", 0).due(1, "sliceCount", 1);
    Run.sentence("behind the width of the terms there is nothing of a wider equation of an earlier problem");
    Run.of("bits a16;bits b16;a=b;").type("bits a16;bits b16;a[3:0]=b[5:2];").due(1, "load").due(2, "sliceCount", 0)
        .due(3, "sliceCount", 1).due(4, "classCount");
    Run.sentence("constant bits have no cuts, and carry none from one variable to another");
    Run.of("bits a4;bits b4;a=%0101;b=%0101;a[0:0]=%1;").due(2, "sliceCount", 0).due(1, "sliceCount", 1);
    Run.of("bits a4;a=%0101;").due(1, "sliceCount", 0).due(1, "classCount");
    Run.sentence("an overlap of a variable with itself");
    Run.of("bits a16;a[15:1]=a[14:0];").due(16, "sliceCount", 0).due(1, "classCount").due(1, "freeBits")
        .due(15, "sliceStart", 0, 15).due(0, "representative", 0, 15).due(Run.INVALID, "sliceStart", 0, 16);
    Run.of("bits a16;a[15:15]=a[0:0];").due(3, "sliceCount", 0).due(2, "classCount").due(0, "representative", 0, 2)
        .due(1, "representative", 0, 1).due(15, "freeBits");
  }

  private static void classes() {
    Run.sentence("A slice that no piece equates with another slice forms a class of its own.");
    new Run().due(0, "classCount");
    Run.of("bits d1;").due(1, "classCount").due(48, "representative", 3, 0);
    Run.of(ALL).due(8, "classCount");
    Run.of("bits a4;bits b4;a=%1010;b=%1010;").due(2, "classCount").due(16, "representative", 1, 0);
    Run.of("bits a4;a=a;").due(1, "classCount");
    Run.sentence("Slices that are equal by these pieces, directly or by a chain, form a class.");
    Run.of(ALL + "h=g;g=f;f=e;e=d;d=c;c=b;b=a;").due(1, "classCount").due(0, "representative", 7, 0)
        .due(0, "representative", 3, 0).due(16, "freeBits");
    Run.sentence("the smallest variable, and among the slices of this variable the one with the smallest number");
    Run.of("bits b8;bits g2;b[7:6]=b[3:2];g=b[7:6];").due(17, "representative", 6, 0).due(17, "representative", 1, 3)
        .due(17, "representative", 1, 1).due(16, "representative", 1, 0).due(18, "representative", 1, 2);
    Run.sentence("the slices and classes are there if the equations are not consistent, too");
    Run.of("bits a2;bits b2;a=b;a=%01;b=%10;").due(1, "sliceCount", 0).due(1, "classCount")
        .due(0, "representative", 1, 0).due(2, "sliceWidth", 1, 0).due(0, "sliceStart", 1, 0);
  }

  // ---- promises 15 to 17, 5 and 6

  private static void conflicts() {
    Run.sentence("no class is equated with two different sequences of constant bits");
    Run.of("bits a16;a=%1010101010101010;a=%1010101010101010;").due(1, "isConsistent");
    Run.of("bits a16;a=%1010101010101010;a=%1010101010101011;").due(0, "isConsistent");
    Run.of("bits a16;a=%1010101010101010;a=%0010101010101010;").due(0, "isConsistent");
    Run.of("bits a2;a[1:1]=%0;a[0:0]=%1;").due(1, "isConsistent");
    Run.sentence("no piece equates two different sequences of constant bits");
    Run.of("%1=%0;").due(0, "isConsistent").due(0, "firstConflict").due(1, "conflictSet");
    Run.of("%1=%1;").due(1, "isConsistent").due(Run.NONE, "firstConflict").due(Run.NONE, "conflictSet");
    Run.of("bits a1;%1.a.%0=%1.a.%1;").due(0, "isConsistent").due(0, "firstConflict");
    Run.of("bits a1;%1.a.%0=%0.a.%0;").due(0, "isConsistent").due(0, "firstConflict");
    Run.sentence("Returns the smallest number k such that the equations 0 to k alone are not consistent");
    Run.of(CHAIN).due(0, "isConsistent").due(9, "firstConflict").due(1023, "conflictSet");
    Run.of("bits a1;" + "a=%1;".repeat(9) + "a=%0;").due(9, "firstConflict").due(768, "conflictSet");
    Run.of("bits a1;a=%0;" + "a=%1;".repeat(9)).due(1, "firstConflict").due(513, "conflictSet");
    Run.of("bits a1;" + "a=%1;".repeat(9) + "%0=%1;").due(9, "firstConflict").due(512, "conflictSet");
    Run.of("%0=%1;".repeat(10)).due(0, "firstConflict").due(512, "conflictSet");
    Run.of(CHAIN).due(9, "removeEquation", 9).due(1, "isConsistent").due(Run.NONE, "firstConflict")
        .due(Run.NONE, "conflictSet");
    Run.sentence("NONE if the equations are consistent");
    Run.of("bits a1;not a=a;not %0=%0;").due(1, "isConsistent").due(Run.NONE, "firstConflict")
        .due(Run.NONE, "conflictSet").due(0, "isSatisfiable");
    new Run().due(1, "isConsistent").due(Run.NONE, "firstConflict").due(Run.NONE, "conflictSet");
  }

  private static void removedEquations() {
    Run.sentence("INVALID_ARGUMENT if there is no such equation");
    for (int equation : outside(10)) Run.of(CHAIN).due(Run.INVALID, "removeEquation", equation);
    for (int equation : outside(1)) Run.of("%1=%0;not %1=%0;not %1=%0;").due(Run.INVALID, "removeEquation", equation);
    for (int equation : outside(0)) Run.of("not %1=%0;").due(Run.INVALID, "removeEquation", equation);
    Run.sentence("Returns the number of equations left");
    Run run = Run.of(CHAIN);
    for (int left = 9; left >= 0; left--) run.due(left, "removeEquation", left / 2).due(left, "equationCount");
    run.due(Run.INVALID, "removeEquation", 0).due(0, "equationCount").due(6, "undoDepth").due(9, "freeBits");
    Run.sentence("The equations with greater numbers move down by one.");
    String steps = "bits a4;a[0:0]=%1;a[1:1]=%1;a[2:2]=%1;a[3:3]=%1;not a=%1111;";
    Run.of(steps).due(3, "removeEquation", 0).due(14, "value", 0).due(2, "removeEquation", 0).due(12, "value", 0);
    Run.of(steps).due(3, "removeEquation", 3).due(7, "value", 0).due(2, "removeEquation", 1).due(5, "value", 0);
    Run.of(steps).due(3, "removeEquation", 1).due(13, "value", 0).due(2, "removeEquation", 2).due(5, "value", 0);
  }

  private static void removedDisequations() {
    Run.sentence("INVALID_ARGUMENT if there is no such disequation: removeDisequation, isImplied");
    String three = "bits a1;a=a;a=a;a=a;a=a;not a=%0;not %1=%0;not a=a;";
    for (int number : outside(3)) {
      Run.of(three).due(Run.INVALID, "removeDisequation", number).due(Run.INVALID, "isImplied", number);
    }
    for (int number : outside(0)) {
      Run.of("bits a1;a=a;a=a;").due(Run.INVALID, "removeDisequation", number).due(Run.INVALID, "isImplied", number);
    }
    Run.sentence("Returns the number of disequations left");
    Run.of(three).due(2, "removeDisequation", 2).due(2, "disequationCount").due(1, "removeDisequation", 0)
        .due(1, "isImplied", 0).due(0, "removeDisequation", 0).due(0, "disequationCount")
        .due(Run.INVALID, "removeDisequation", 0).due(4, "equationCount").due(4, "undoDepth");
    Run.sentence("The disequations with greater numbers move down by one.");
    Run.of(three).due(2, "removeDisequation", 0).due(1, "isImplied", 0).due(0, "isImplied", 1)
        .due(Run.INVALID, "isImplied", 2).due(0, "isSatisfiable").due(1, "removeDisequation", 1)
        .due(1, "isImplied", 0).due(1, "isSatisfiable").due(Run.INVALID, "isImplied", 1);
    Run.of(three).due(2, "removeDisequation", 1).due(0, "isImplied", 0).due(0, "isImplied", 1)
        .due(0, "isSatisfiable");
  }

  // ---- promises 18 to 20

  private static void fixedBits() {
    Run.sentence("0 or 1 if the class of the slice with this bit is fixed; NONE if the class is not fixed");
    Run.of("bits a16;a[15:15]=%1;a[0:0]=%0;").due(1, "fixedBit", 0, 15).due(0, "fixedBit", 0, 0)
        .due(Run.NONE, "fixedBit", 0, 14).due(Run.NONE, "fixedBit", 0, 1);
    Run.of("bits a2;bits h2;a=h;a=%10;").due(1, "fixedBit", 7, 1).due(0, "fixedBit", 7, 0);
    Run.of("bits a2;bits h2;h=%10;a=h;").due(1, "fixedBit", 0, 1).due(0, "fixedBit", 0, 0);
    Run.of("bits a2;bits h2;h=%10;h=a;").due(1, "fixedBit", 0, 1).due(0, "fixedBit", 0, 0);
    Run.of("bits a2;not a=%00;not a=%01;not a=%10;").due(Run.NONE, "fixedBit", 0, 0).due(3, "value", 0);
    Run.sentence("ILLEGAL_STATE if the equations are not consistent: fixedBit");
    Run.of("bits a1;a=%1;%1=%0;").due(Run.ILLEGAL, "fixedBit", 0, 0).due(1, "removeEquation", 1)
        .due(1, "fixedBit", 0, 0).due(1, "undo").due(Run.ILLEGAL, "fixedBit", 0, 0);
    Run.of("bits a1;bits b16;a=%1;a=%0;").due(Run.ILLEGAL, "fixedBit", 1, 15).due(Run.ILLEGAL, "fixedBit", 0, 0);
    Run.sentence("a problem that is not satisfiable, but whose equations are consistent, has fixed bits");
    Run.of("bits a1;a=%1;not a=a;").due(1, "fixedBit", 0, 0).due(1, "compareBits", 0, 0, 0, 0).due(0, "freeBits");
  }

  private static void comparedBits() {
    Run.sentence("1 if the bits are equal in all solutions of the equations, 0 if they differ in all, 2 otherwise");
    Run.of("bits a16;bits h16;a[15:15]=h[0:0];a[0:0]=%1;h[15:15]=%0;").due(1, "compareBits", 0, 15, 7, 0)
        .due(1, "compareBits", 7, 0, 0, 15).due(0, "compareBits", 0, 0, 7, 15).due(0, "compareBits", 7, 15, 0, 0)
        .due(2, "compareBits", 0, 0, 7, 0).due(2, "compareBits", 7, 0, 0, 0).due(2, "compareBits", 0, 1, 7, 1)
        .due(1, "compareBits", 0, 1, 0, 1).due(1, "compareBits", 7, 15, 7, 15);
    Run.sentence("Compares two bits by the equations alone.");
    Run.of("bits a1;bits b1;not a=b;").due(2, "compareBits", 0, 0, 1, 0);
    Run.of("bits a1;bits b1;a=%1;b=%1;not a=b;").due(1, "compareBits", 0, 0, 1, 0).due(0, "isSatisfiable");
    Run.sentence("ILLEGAL_STATE if the equations are not consistent: compareBits");
    Run.of("bits a1;bits b1;%1=%0;").due(Run.ILLEGAL, "compareBits", 0, 0, 1, 0).due(Run.ILLEGAL, "compareBits", 0, 0, 0, 0)
        .due(0, "removeEquation", 0).due(2, "compareBits", 0, 0, 1, 0);
  }

  private static void freeBits() {
    Run.sentence("A free bit is a bit of a class that is not fixed.");
    new Run().due(0, "freeBits");
    Run.of("bits h1;").due(1, "freeBits");
    Run.of("bits h1;h=%0;").due(0, "freeBits");
    Run.of(ALL).due(128, "freeBits");
    Run.of(ALL + "a=b;").due(112, "freeBits");
    Run.of(ALL + "a=b;b[15:15]=%1;").due(111, "freeBits");
    Run.sentence("Returns the number of free bits; ILLEGAL_STATE if the equations are not consistent.");
    Run.of("%1=%0;").due(Run.ILLEGAL, "freeBits").due(0, "undo").due(0, "freeBits");
    Run.of(ALL + "%1=%0;").due(Run.ILLEGAL, "freeBits").due(0, "removeEquation", 0).due(128, "freeBits");
  }

  // ---- promises 21 to 24

  private static void models() {
    Run.sentence("Returns the value, from 0 to 2 to the power of the width less 1");
    for (int width = 1; width <= 16; width++) {
      Run.of("bits a" + width + ";bits h" + width + ";a=%" + "1".repeat(width) + ";h=%" + "0".repeat(width) + ";")
          .due((1 << width) - 1, "value", 0).due(0, "value", 7).due(0, "oneBits");
    }
    Run.sentence("0 if the variable is not declared");
    Run.of("bits b1;not b=%0;").due(0, "value", 0).due(1, "value", 1).due(0, "value", 2).due(0, "value", 7);
    Run.sentence("the model with the fewest free bits that are 1: none, one, two, three");
    Run.of("bits a16;").due(0, "oneBits").due(0, "value", 0);
    Run.of("bits a16;not a=%0000000000000000;").due(1, "oneBits").due(1, "value", 0);
    Run.of("bits a2;not a=%00;not a=%01;not a=%10;").due(2, "oneBits").due(3, "value", 0);
    Run.of("bits a2;not a=%00;not a=%01;").due(1, "oneBits").due(2, "value", 0);
    Run.of("bits a1;bits d1;bits h1;not a=%0;not d=%0;not h=%0;").due(3, "oneBits").due(1, "value", 0)
        .due(1, "value", 3).due(1, "value", 7);
    Run.of("bits a16;not a[15:15]=%0;not a[7:7]=%0;not a[14:14]=%0;").due(3, "oneBits").due(49280, "value", 0);
    Run.sentence("a bit that stands in many places counts once");
    Run.of(ALL + "a=b;b=c;c=d;not d=%0000000000000000;").due(1, "oneBits").due(1, "value", 0).due(1, "value", 3);
    Run.sentence("a fixed bit that is 1 does not count");
    Run.of("bits a16;a[15:1]=%111111111111111;not a[0:0]=%0;").due(1, "oneBits").due(65535, "value", 0);
    Run.sentence("the list of free bits that are 1 is lexicographically smallest");
    Run.of("bits g1;bits h1;not g=h;").due(1, "value", 6).due(0, "value", 7);
    Run.of("bits h1;bits g1;not h=g;").due(1, "value", 6).due(0, "value", 7);
    Run.of("bits a2;bits b2;bits c2;not a=b;not b=c;not a=c;").due(2, "oneBits").due(1, "value", 0)
        .due(2, "value", 1).due(0, "value", 2);
    Run.of("bits a16;not a[15:14]=%00;").due(16384, "value", 0);
    Run.of("bits h1;not h=%0;").due(1, "oneBits").type("bits a1;bits h1;not a=h;").due(1, "load").due(1, "oneBits")
        .due(1, "value", 0).due(0, "value", 7);
    Run.sentence("Free bits are ordered: by the smallest variable, then by the smallest number of a slice, then by position");
    Run.of("bits a4;bits b4;a[3:3]=b[0:0];not a[3:3].b[1:1]=%00;").due(8, "value", 0).due(1, "value", 1);
    Run.of("bits a4;bits b4;a[0:0]=b[3:3];not b[3:2]=%00;").due(1, "value", 0).due(8, "value", 1);
    Run.of("bits a4;a[3:2]=a[1:0];not a[3:1]=%000;").due(5, "value", 0).due(1, "oneBits");
    Run.of("bits a4;a[3:3]=a[0:0];not a[3:3].a[1:1]=%00;").due(9, "value", 0);
  }

  private static void noModel() {
    Run.sentence("NONE if the problem is not satisfiable, and so for a variable that is not declared");
    for (String text : new String[] {"%1=%0;", "not %1=%1;", "bits a16;not a=a;", "bits a1;not a=%0;not a=%1;",
        "bits a1;a=%1;not a=%1;", "bits a1;bits b1;bits c1;not a=b;not b=c;not c=a;", "bits a1;%1=%0;not a=%0;",
        "bits a16;not a=%0000000000000000;not a[15:15]=%1;a[14:0]=%000000000000000;"}) {
      Run run = Run.of(text).due(0, "isSatisfiable").due(Run.NONE, "oneBits");
      for (int v = 0; v < 8; v++) run.due(Run.NONE, "value", v);
      run.due(Run.INVALID, "value", 8).due(Run.INVALID, "value", -1).due(0, "undo").due(1, "isSatisfiable")
          .due(0, "value", 7).due(0, "oneBits");
    }
    Run.sentence("The problem is satisfiable if it has a model.");
    Run.of("bits a2;bits b2;bits c2;not a=b;not b=c;not c=a;").due(1, "isSatisfiable");
    Run.of("bits a1;not a=%0;not a=%1;").due(1, "removeDisequation", 0).due(1, "isSatisfiable").due(0, "value", 0)
        .due(1, "undo").due(Run.NONE, "value", 0).due(1, "removeDisequation", 1).due(1, "value", 0);
  }

  private static void implied() {
    Run.sentence("Tells whether a disequation holds in every solution of the equations.");
    Run.of("bits a16;a[15:15]=%1;not a=%0111111111111111;not a=%1111111111111111;not a=a;").due(1, "isImplied", 0)
        .due(0, "isImplied", 1).due(0, "isImplied", 2);
    Run.of("bits a16;a[0:0]=%1;not a=%1111111111111110;not %0=%1;not %1=%1;").due(1, "isImplied", 0)
        .due(1, "isImplied", 1).due(0, "isImplied", 2);
    Run.of("bits a1;not a.a=%10;not a=%0;not a=%1;").due(1, "isImplied", 0).due(0, "isImplied", 1)
        .due(0, "isImplied", 2);
    Run.sentence("ILLEGAL_STATE if the equations are not consistent: isImplied");
    Run.of("%1=%0;not %1=%0;").due(Run.ILLEGAL, "isImplied", 0).due(0, "removeEquation", 0).due(1, "isImplied", 0)
        .due(1, "undo").due(Run.ILLEGAL, "isImplied", 0);
  }

  // ---- promises 25 to 28

  private static void undo() {
    Run.sentence("Returns the number of states that are still saved; ILLEGAL_STATE if none was saved.");
    new Run().due(Run.ILLEGAL, "undo").due(0, "undoDepth").due(0, "load").due(1, "undoDepth").due(0, "undo")
        .due(0, "undoDepth").due(Run.ILLEGAL, "undo");
    Run.sentence("Every successful call of load(), removeEquation() and removeDisequation() saves the state");
    Run.of("bits a4;a=%0101;not a=%0000;").due(1, "undoDepth").due(0, "removeEquation", 0).due(2, "undoDepth")
        .due(0, "removeDisequation", 0).due(3, "undoDepth").due(0, "value", 0).due(2, "undo").due(1, "value", 0)
        .due(1, "undo").due(5, "value", 0).due(0, "undo").due(0, "width", 0).due(Run.ILLEGAL, "undo");
    Run.sentence("save() and the questions save no state");
    Run.of("bits a4;a=%0101;not a=%0000;").due(2, "save", 0).due(2, "save", 1).due(5, "value", 0)
        .due(Run.NONE, "conflictSet").due(1, "isImplied", 0).due(0, "clearText").due(1, "undoDepth");
    Run.sentence("The text is not part of the state.");
    Run.of("bits a4;").type("bits b").due(0, "undo").type("5;").due(0, "load").due(5, "width", 1).due(0, "undo");
    Run.sentence("undo() restores the state and discards it; the snapshots stay");
    Run.of("bits a4;").due(0, "save", 0).due(0, "undo").due(Run.ILLEGAL, "undo").due(0, "restore", 0)
        .due(4, "width", 0).due(Run.ILLEGAL, "restore", 1);
  }

  /** A run whose states are told apart by the width of a: 0 at first, then 1 up to the number of loads. */
  private static Run loads(int count) {
    Run run = new Run();
    for (int width = 1; width <= count; width++) {
      run.type("bits a" + width + ";not a=a;%1=%1;").due(2, "load").due(Math.min(width, 6), "undoDepth");
    }
    return run;
  }

  private static void undoAll(Run run, int depth, int oldestWidth) {
    for (int left = depth - 1; left >= 0; left--) run.due(left, "undo").due(left, "undoDepth").due(oldestWidth + left, "width", 0);
    run.due(Run.ILLEGAL, "undo").due(0, "undoDepth").due(oldestWidth, "width", 0);
  }

  private static void seventhState() {
    Run.sentence("At most 6 states are saved; when a seventh is saved, the oldest one is discarded.");
    undoAll(loads(5), 5, 0);
    undoAll(loads(6), 6, 0);
    undoAll(loads(7), 6, 1);
    undoAll(loads(8), 6, 2);
    undoAll(loads(13), 6, 7);
    Run.sentence("the seventh state is saved by removeEquation() or removeDisequation()");
    Run run = loads(6).due(0, "removeEquation", 0).due(6, "undoDepth").due(5, "undo").due(1, "equationCount");
    undoAll(run, 5, 1);
    run = loads(6).due(0, "removeDisequation", 0).due(6, "undoDepth").due(5, "undo").due(1, "disequationCount");
    undoAll(run, 5, 1);
    Run.sentence("a call that is refused at six states discards none");
    run = loads(6).due(Run.INVALID, "removeEquation", 1).due(Run.INVALID, "removeDisequation", 1).type("x")
        .due(-10, "load").due(Run.ILLEGAL, "restore", 0).due(6, "undoDepth");
    undoAll(run, 6, 0);
    Run.sentence("behind undo() there is room for one more state");
    run = loads(6).due(5, "undo").type("bits a6;").due(0, "load").due(6, "undoDepth");
    undoAll(run, 6, 0);
    Run.sentence("behind all undo() six states can be saved again");
    run = loads(7);
    undoAll(run, 6, 1);
    for (int width = 2; width <= 8; width++) run.type("bits a" + width + ";").due(0, "load");
    undoAll(run, 6, 2);
  }

  private static void slots() {
    Run.sentence("INVALID_ARGUMENT if slot is neither 0 nor 1: save, restore");
    for (int slot : outside(2)) {
      new Run().due(Run.INVALID, "save", slot).due(Run.INVALID, "restore", slot).due(Run.ILLEGAL, "restore", 0)
          .due(Run.ILLEGAL, "restore", 1);
      Run.of("bits a4;").due(0, "save", 0).due(0, "save", 1).due(Run.INVALID, "save", slot)
          .due(Run.INVALID, "restore", slot).due(1, "undoDepth");
    }
    Run.sentence("ILLEGAL_STATE if the slot is empty");
    new Run().due(Run.ILLEGAL, "restore", 0).due(Run.ILLEGAL, "restore", 1).due(0, "save", 0)
        .due(Run.ILLEGAL, "restore", 1).due(0, "restore", 0);
    new Run().due(0, "save", 1).due(Run.ILLEGAL, "restore", 0).due(0, "restore", 1);
    Run.of("bits a4;").due(Run.ILLEGAL, "restore", 0).due(1, "undoDepth").due(4, "width", 0);
    Run.sentence("a snapshot of a new object is not an empty slot");
    new Run().due(0, "save", 0).type("bits a4;%1=%0;").due(1, "load").due(0, "restore", 0).due(0, "width", 0)
        .due(1, "isConsistent").due(0, "equationCount");
  }

  private static void snapshots() {
    Run.sentence("Copies the state into a snapshot slot. Returns the number of statements, 0 to 13");
    Run.of("%1=%1;".repeat(10) + "not%1=%0;".repeat(3)).due(13, "save", 0).due(9, "removeEquation", 0)
        .due(12, "save", 1).due(2, "removeDisequation", 0).due(11, "save", 1).due(13, "restore", 0)
        .due(10, "equationCount").due(3, "disequationCount").due(11, "restore", 1).due(9, "equationCount")
        .due(2, "disequationCount");
    Run.sentence("a second save() into a slot replaces the first one");
    Run.of("bits a4;").due(0, "save", 0).type("bits a5;not a=a;").due(1, "load").due(1, "save", 0).due(0, "load")
        .due(1, "restore", 0).due(5, "width", 0);
    Run.sentence("Replaces the state by a copy of the one in a snapshot slot, which is kept.");
    Run.of("bits a4;a=%0101;not a=%0000;").due(2, "save", 1).due(0, "removeEquation", 0).due(0, "removeDisequation", 0)
        .due(2, "restore", 1).due(5, "value", 0).due(0, "removeEquation", 0).due(1, "value", 0).due(2, "restore", 1)
        .due(5, "value", 0).due(1, "disequationCount").due(Run.ILLEGAL, "restore", 0);
    Run.sentence("All states saved for undo() are discarded.");
    loads(7).due(2, "save", 0).due(6, "undoDepth").due(2, "restore", 0).due(0, "undoDepth").due(Run.ILLEGAL, "undo")
        .due(7, "width", 0).due(0, "removeEquation", 0).due(1, "undoDepth").due(0, "undo").due(1, "equationCount")
        .due(Run.ILLEGAL, "undo");
    Run.sentence("The text is not part of the state: save() and restore() leave it");
    Run.of("bits a4;").type("bits b").due(0, "save", 0).due(0, "restore", 0).type("3;").due(0, "load").due(3, "width", 1);
  }
}
