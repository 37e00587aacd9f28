import java.util.ArrayList;
import java.util.Arrays;
import java.util.List;
import java.util.function.Consumer;

/**
 * "A call that returns an error code changes nothing. If several error conditions apply, the
 * method returns the one that its description lists first."
 *
 * A refused call is made in a run, and then everything that can be seen of the object (its
 * answers, the text that it holds, the states that undo() finds, the snapshots) is compared with
 * the same run without the call.
 */
public final class RefusalTests {
  private static final int LOOKS = 6;

  /** A call that is refused, with its answer. */
  record Refusal(int want, String name, int... arguments) {
    @Override public String toString() { return name + Arrays.toString(arguments); }
  }

  /** How an object comes to a state, and what makes the text that it holds then a valid problem. */
  record Situation(String name, Consumer<Run> path, String rest, List<Refusal> refusals) {}

  public static void main(String[] args) {
    for (Situation situation : List.of(fresh(), loaded(), inconsistent(), unsatisfiable(), crowded(), restored(),
        atLimits(), fullAndValid(), fullAndRefused())) {
      nothingChanges(situation);
    }
    firstListed();
    firstInText();
    Run.end();
  }

  // ---- the situations

  private static Situation fresh() {
    return new Situation("a new object", run -> { }, "bits e3;", with(refusedEverywhere(0, 0),
        new Refusal(Run.ILLEGAL, "undo"), new Refusal(Run.ILLEGAL, "restore", 0),
        new Refusal(Run.ILLEGAL, "restore", 1), new Refusal(Run.INVALID, "sliceStart", 0, 0),
        new Refusal(Run.INVALID, "sliceWidth", 0, 0), new Refusal(Run.INVALID, "representative", 0, 0),
        new Refusal(Run.INVALID, "fixedBit", 0, 0), new Refusal(Run.INVALID, "compareBits", 0, 0, 0, 0),
        new Refusal(Run.NONE, "firstConflict"), new Refusal(Run.NONE, "conflictSet")));
  }

  private static Situation loaded() {
    return new Situation("a problem with a model", run -> run
        .type("bits a4;bits b4;a=b;a[0:0]=%1;not a=%0001;not b=%0011;").due(4, "load").type("bits c"), "5;",
        with(refusedEverywhere(2, 2), new Refusal(-16, "load"), new Refusal(Run.ILLEGAL, "restore", 0),
            new Refusal(Run.ILLEGAL, "restore", 1), new Refusal(Run.INVALID, "sliceStart", 0, 2),
            new Refusal(Run.INVALID, "sliceWidth", 1, 2), new Refusal(Run.INVALID, "representative", 1, 2),
            new Refusal(Run.INVALID, "fixedBit", 0, 4), new Refusal(Run.INVALID, "compareBits", 0, 4, 1, 0),
            new Refusal(Run.INVALID, "compareBits", 0, 0, 1, 4), new Refusal(Run.NONE, "fixedBit", 0, 1),
            new Refusal(Run.NONE, "firstConflict"), new Refusal(Run.NONE, "conflictSet")));
  }

  private static Situation inconsistent() {
    return new Situation("equations that are not consistent", run -> run
        .type("bits a4;bits b2;a=%0101;b=%01;a[1:0]=%10;not a[3:2]=b;not b=%00;").due(5, "load").due(5, "save", 1)
        .due(1, "removeDisequation", 1).type("bits c5;c="), "c;",
        with(refusedEverywhere(3, 1), new Refusal(-20, "load"), new Refusal(Run.ILLEGAL, "restore", 0),
            new Refusal(Run.ILLEGAL, "freeBits"), new Refusal(Run.ILLEGAL, "fixedBit", 0, 0),
            new Refusal(Run.ILLEGAL, "compareBits", 0, 0, 1, 0), new Refusal(Run.ILLEGAL, "isImplied", 0),
            new Refusal(Run.NONE, "oneBits"), new Refusal(Run.NONE, "value", 0), new Refusal(Run.NONE, "value", 7)));
  }

  private static Situation unsatisfiable() {
    return new Situation("a problem without a model", run -> run
        .type("bits a2;a[0:0]=%0;not a[0:0]=%0;not a=%10;").due(3, "load").due(3, "save", 0).type("bits c5;not "),
        "c=c;", with(refusedEverywhere(1, 2), new Refusal(-22, "load"), new Refusal(Run.ILLEGAL, "restore", 1),
            new Refusal(Run.NONE, "oneBits"), new Refusal(Run.NONE, "value", 0), new Refusal(Run.NONE, "value", 7),
            new Refusal(Run.NONE, "firstConflict"), new Refusal(Run.NONE, "conflictSet")));
  }

  private static Situation crowded() {
    return new Situation("six saved states and two snapshots", run -> {
      for (int width = 1; width <= 5; width++) run.type("bits a" + width + ";").due(0, "load");
      run.due(0, "save", 0).type("bits a7;a=a;a[0:0]=%1;not a=a;").due(3, "load").due(3, "save", 1);
      run.due(1, "removeEquation", 0).due(6, "undoDepth").type("bits h1");
    }, "6;", with(refusedEverywhere(1, 1), new Refusal(-17, "load")));
  }

  private static Situation restored() {
    return new Situation("a restored problem without saved states", run -> run
        .type("bits a3;bits f2;a[1:0]=f;not a=%000;").due(2, "load").due(2, "save", 1).due(0, "removeEquation", 0)
        .due(2, "restore", 1).type("bits b2;b=b"), ";", with(refusedEverywhere(1, 1), new Refusal(-21, "load"),
            new Refusal(Run.ILLEGAL, "undo"), new Refusal(Run.ILLEGAL, "restore", 0)));
  }

  private static Situation atLimits() {
    return new Situation("ten equations and three disequations", run -> run
        .type("bits a1;bits b2;" + Run.times("a=%1;", 10) + Run.times("not b=%00;", 3)).due(13, "load").type("%"),
        "1=%1;", with(refusedEverywhere(10, 3), new Refusal(-11, "load"), new Refusal(Run.ILLEGAL, "restore", 0)));
  }

  private static Situation fullAndValid() {
    return new Situation("a full text that is valid", run -> run
        .type("bits a1;a=%1;").due(1, "load").due(1, "save", 0).type(Run.times(" ", 184) + "bits d9;d=d;    "), "",
        with(refusedEverywhere(1, 0), new Refusal(Run.FULL, "append", ';'), new Refusal(Run.FULL, "append", 0),
            new Refusal(Run.FULL, "append", 255)));
  }

  private static Situation fullAndRefused() {
    return new Situation("a full text that is not valid", run -> run
        .type(Run.times(" ", 192) + "bits h17"), "",
        with(refusedEverywhere(0, 0), new Refusal(Run.FULL, "append", ';'), new Refusal(-208, "load"),
            new Refusal(Run.ILLEGAL, "undo")));
  }

  private static List<Refusal> with(List<Refusal> list, Refusal... more) {
    list.addAll(Arrays.asList(more));
    return list;
  }

  /** The calls that are refused in each state with so many equations and disequations. */
  private static List<Refusal> refusedEverywhere(int equations, int disequations) {
    List<Refusal> list = new ArrayList<>();
    for (int code : new int[] {-1, 256, Integer.MIN_VALUE}) list.add(new Refusal(Run.INVALID, "append", code));
    for (int slot : new int[] {-1, 2, 32}) {
      list.add(new Refusal(Run.INVALID, "save", slot));
      list.add(new Refusal(Run.INVALID, "restore", slot));
    }
    for (int number : new int[] {-1, equations, Integer.MAX_VALUE}) {
      list.add(new Refusal(Run.INVALID, "removeEquation", number));
    }
    for (int number : new int[] {-1, disequations, Integer.MIN_VALUE}) {
      list.add(new Refusal(Run.INVALID, "removeDisequation", number));
      list.add(new Refusal(Run.INVALID, "isImplied", number));
    }
    for (int variable : new int[] {-1, 8}) {
      for (String name : new String[] {"width", "sliceCount", "value"}) {
        list.add(new Refusal(Run.INVALID, name, variable));
      }
      for (String name : new String[] {"sliceStart", "sliceWidth", "representative", "fixedBit"}) {
        list.add(new Refusal(Run.INVALID, name, variable, 0));
        list.add(new Refusal(Run.INVALID, name, 0, variable == 8 ? 16 : -1));
      }
      list.add(new Refusal(Run.INVALID, "compareBits", variable, 0, 0, 0));
      list.add(new Refusal(Run.INVALID, "compareBits", 0, 0, 0, variable == 8 ? 16 : -1));
    }
    return list;
  }

  // ---- nothing changes

  private static void nothingChanges(Situation situation) {
    for (int look = 0; look < LOOKS; look++) {
      List<Integer> plain = seen(situation, List.of(), look);
      for (Refusal refusal : situation.refusals()) compare(situation, List.of(refusal), look, plain);
      compare(situation, situation.refusals(), look, plain);
    }
  }

  private static void compare(Situation situation, List<Refusal> refusals, int look, List<Integer> plain) {
    Run.sentence("A call that returns an error code changes nothing: " + situation.name() + ", " + refusals);
    List<Integer> seen = seen(situation, refusals, look);
    if (!seen.equals(plain)) Run.fault("look " + look + " sees " + seen + ", due is " + plain);
  }

  private static List<Integer> seen(Situation situation, List<Refusal> refusals, int look) {
    Run run = new Run();
    situation.path().accept(run);
    for (Refusal refusal : refusals) run.due(refusal.want(), refusal.name(), refusal.arguments());
    List<Integer> seen = new ArrayList<>();
    switch (look) {
      case 0 -> lookAtSlices(run, seen);
      case 1 -> lookAtBits(run, seen);
      case 2 -> lookAtText(run, situation.rest(), seen);
      case 3 -> lookAtSavedStates(run, seen);
      case 4 -> lookAtSnapshots(run, seen);
      default -> lookAtLength(run, seen);
    }
    return seen;
  }

  private static void lookAround(Run run, List<Integer> seen) {
    for (int v = 0; v < 8; v++) {
      seen.add(run.call("width", v));
      seen.add(run.call("value", v));
    }
    for (int number = 0; number < 3; number++) seen.add(run.call("isImplied", number));
    for (String name : new String[] {"equationCount", "disequationCount", "classCount", "isConsistent",
        "firstConflict", "conflictSet", "freeBits", "isSatisfiable", "oneBits", "undoDepth"}) {
      seen.add(run.call(name));
    }
  }

  private static void lookAtSlices(Run run, List<Integer> seen) {
    lookAround(run, seen);
    for (int v = 0; v < 8; v++) {
      seen.add(run.call("sliceCount", v));
      for (int slice = 0; slice < 4; slice++) {
        seen.add(run.call("sliceStart", v, slice));
        seen.add(run.call("sliceWidth", v, slice));
        seen.add(run.call("representative", v, slice));
      }
    }
  }

  private static void lookAtBits(Run run, List<Integer> seen) {
    for (int v = 0; v < 8; v++) {
      for (int bit = 0; bit < 8; bit++) {
        seen.add(run.call("fixedBit", v, bit));
        seen.add(run.call("compareBits", 0, 0, v, bit));
      }
    }
  }

  private static void lookAtText(Run run, String rest, List<Integer> seen) {
    run.type(rest);
    seen.add(run.call("load"));
    lookAround(run, seen);
    seen.add(run.call("clearText"));
    seen.add(run.call("undo"));
    lookAround(run, seen);
  }

  private static void lookAtSavedStates(Run run, List<Integer> seen) {
    for (int i = 0; i < 7; i++) {
      seen.add(run.call("undo"));
      lookAround(run, seen);
    }
  }

  private static void lookAtSnapshots(Run run, List<Integer> seen) {
    for (int slot = 1; slot >= 0; slot--) {
      seen.add(run.call("restore", slot));
      lookAround(run, seen);
    }
  }

  private static void lookAtLength(Run run, List<Integer> seen) {
    seen.add(run.call("clearText"));
    seen.add(run.call("load"));
    seen.add(run.call("undo"));
    lookAround(run, seen);
  }

  // ---- the error that is listed first

  private static void firstListed() {
    Run.sentence("INVALID_ARGUMENT stands before CAPACITY_EXCEEDED: append");
    new Run().type(Run.times(" ", 200)).due(Run.INVALID, "append", -1).due(Run.INVALID, "append", 256)
        .due(Run.FULL, "append", 0).due(Run.FULL, "append", 255);
    Run bad = Run.of("bits a2;bits b2;%1=%0;not %1=%0;");
    Run.sentence("INVALID_ARGUMENT stands before ILLEGAL_STATE: fixedBit");
    bad.due(Run.INVALID, "fixedBit", 0, 2).due(Run.INVALID, "fixedBit", 0, -1).due(Run.INVALID, "fixedBit", 2, 0)
        .due(Run.INVALID, "fixedBit", 8, 0).due(Run.INVALID, "fixedBit", -1, 0).due(Run.ILLEGAL, "fixedBit", 1, 1);
    Run.sentence("INVALID_ARGUMENT stands before ILLEGAL_STATE: compareBits");
    bad.due(Run.INVALID, "compareBits", 0, 2, 1, 1).due(Run.INVALID, "compareBits", 0, 1, 1, 2)
        .due(Run.INVALID, "compareBits", 2, 0, 1, 1).due(Run.INVALID, "compareBits", 0, 0, 2, 0)
        .due(Run.INVALID, "compareBits", -1, 0, 1, 1).due(Run.INVALID, "compareBits", 0, 0, 8, 0)
        .due(Run.ILLEGAL, "compareBits", 0, 1, 1, 1);
    Run.sentence("INVALID_ARGUMENT stands before ILLEGAL_STATE: isImplied");
    bad.due(Run.INVALID, "isImplied", 1).due(Run.INVALID, "isImplied", -1).due(Run.ILLEGAL, "isImplied", 0);
    Run.sentence("INVALID_ARGUMENT stands before NONE: value");
    bad.due(Run.INVALID, "value", 8).due(Run.INVALID, "value", -1).due(Run.NONE, "value", 7);
    Run.of("bits a1;not a=a;").due(Run.INVALID, "value", 8).due(Run.INVALID, "value", -1).due(Run.NONE, "value", 7);
    Run.sentence("ILLEGAL_STATE stands before NONE: fixedBit");
    bad.due(Run.ILLEGAL, "fixedBit", 0, 0);
    Run.sentence("INVALID_ARGUMENT stands before ILLEGAL_STATE: restore");
    new Run().due(Run.INVALID, "restore", -1).due(Run.INVALID, "restore", 2).due(Run.ILLEGAL, "restore", 0)
        .due(Run.ILLEGAL, "restore", 1);
  }

  private static void firstInText() {
    Run.sentence("the first token that is not allowed where it stands");
    Run.refused("bits a17;bits a17;#", 6);
    Run.refused("bits a16;bits a17;#", 14);
    Run.refused("bits a16;a.a=b;", 12);
    Run.refused("bits a16;a=a.b", 13);
    Run.refused("bits a16;a=a.a#", 14);
    Run.refused("bits a16;a[16:17]=a;", 11);
    Run.refused("bits a16;a[1:2", 13);
    Run.refused(Run.times("%1=%1;", 10) + "a=%11;", 60);
    Run.refused(Run.times("%1=%1;", 10) + "#", 60);
    Run.refused("%1=%1;%1=%11;" + Run.times("%1=%1;", 10), 12);
    Run.refused(Run.times("not%1=%1;", 3) + "not not", 27);
    Run.refused("bits a", 6);
    Run.refused("bits #", 5);
  }
}
