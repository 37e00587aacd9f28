import java.io.IOException;
import java.lang.reflect.Constructor;
import java.lang.reflect.Field;
import java.lang.reflect.Method;
import java.lang.reflect.Modifier;
import java.nio.file.Files;
import java.nio.file.Path;
import java.util.List;
import java.util.TreeSet;
import java.util.regex.Matcher;
import java.util.regex.Pattern;

/** The public face of the document, the rules of LANGUAGE.md that can be seen, and wild calls. */
public final class LanguageTests {
  private static final List<String> FACE = List.of(
      "append(int)", "clearText()", "load()", "removeEquation(int)", "removeDisequation(int)",
      "width(int)", "equationCount()", "disequationCount()", "sliceCount(int)",
      "sliceStart(int,int)", "sliceWidth(int,int)", "representative(int,int)", "classCount()",
      "isConsistent()", "firstConflict()", "conflictSet()", "fixedBit(int,int)",
      "compareBits(int,int,int,int)", "freeBits()", "isSatisfiable()", "oneBits()", "value(int)",
      "isImplied(int)", "undo()", "undoDepth()", "save(int)", "restore(int)");
  private static int wrong = 0;

  private static void due(String what, boolean good) {
    if (!good) { wrong++; System.out.println("not as due: " + what); }
  }

  public static void main(String[] args) throws Exception {
    face();
    names();
    source();
    wildCalls();
    System.out.println(wrong == 0 ? "all is as due" : wrong + " things are not as due");
    if (wrong != 0) System.exit(1);
  }

  private static void face() {
    due("public final class", SliceSolver.class.getModifiers() == (Modifier.PUBLIC | Modifier.FINAL));
    TreeSet<String> methods = new TreeSet<>();
    for (Method method : SliceSolver.class.getDeclaredMethods()) {
      if (Modifier.isPrivate(method.getModifiers())) continue;
      String text = method.toString();
      methods.add(text.substring(text.indexOf('.') + 1));
      due(text, text.equals("public int SliceSolver." + text.substring(text.indexOf('.') + 1)));
    }
    due("the public methods: " + methods, methods.equals(new TreeSet<>(FACE)));
    TreeSet<String> fields = new TreeSet<>();
    for (Field field : SliceSolver.class.getDeclaredFields()) {
      if (!Modifier.isPrivate(field.getModifiers())) fields.add(field.toString());
    }
    String kind = "public static final int SliceSolver.";
    due("the public fields: " + fields, fields.equals(new TreeSet<>(List.of(
        kind + "INVALID_ARGUMENT", kind + "ILLEGAL_STATE", kind + "CAPACITY_EXCEEDED", kind + "NONE"))));
    Constructor<?>[] made = SliceSolver.class.getDeclaredConstructors();
    due("one constructor", made.length == 1 && made[0].toString().equals("public SliceSolver()"));
  }

  private static void names() {
    TreeSet<String> names = new TreeSet<>();
    for (String call : FACE) names.add(call.substring(0, call.indexOf('(')));
    due("at most twelve classes", SliceSolver.class.getDeclaredClasses().length < 12);
    for (Class<?> inside : SliceSolver.class.getDeclaredClasses()) {
      due(inside + " is static", Modifier.isStatic(inside.getModifiers()));
      for (Method method : inside.getDeclaredMethods()) {
        due(method + " bears a public name", !names.contains(method.getName()));
        due(method + " has too many parameters", method.getParameterCount() <= 7);
      }
      int fields = 0;
      for (Field field : inside.getDeclaredFields()) if (!Modifier.isStatic(field.getModifiers())) fields++;
      due(inside + " has too many fields", fields <= 20);
    }
    for (Method method : SliceSolver.class.getDeclaredMethods()) {
      boolean isPrivate = Modifier.isPrivate(method.getModifiers());
      due(method + " bears a public name", !isPrivate || !names.contains(method.getName()));
    }
  }

  private static void source() throws IOException {
    String source = Files.readString(Path.of("src/main/java/SliceSolver.java"));
    String code = source.replaceAll("(?s)/\\*.*?\\*/", "").replaceAll("//[^\n]*", "");
    Matcher word = Pattern.compile("\\b(throw|throws|try|catch|finally|synchronized|assert|package|"
        + "\\w*Exact|System\\.(?!arraycopy)\\w+|Object|Random|Thread|var|native|transient|volatile)\\b|->|::")
        .matcher(code);
    while (word.find()) due("the source has " + word.group(), false);
    for (String line : code.split("\n")) {
      if (line.startsWith("import")) due(line, line.equals("import java.util.Arrays;"));
    }
    for (int i = 0; i < source.length(); i++) {
      char sign = source.charAt(i);
      if (sign != '\n' && (sign < 32 || sign > 126)) due("the source has a sign " + (int) sign, false);
    }
    int start = 0;
    String[] lines = source.split("\n");
    for (int i = 0; i < lines.length; i++) {
      if (lines[i].matches("(    |        )[^ /*}].*\\{")) start = i;
      if (lines[i].matches("(    |        )\\}") && !lines[start].contains("class ")) {
        due("too long: " + lines[start].trim(), i - start < 60);
      }
    }
  }

  /** No call may throw, for any arguments in any state. */
  private static void wildCalls() {
    int[] edges = {Integer.MIN_VALUE, -17, -2, -1, 0, 1, 2, 3, 7, 8, 9, 10, 15, 16, 127, 128, 255, 256, Integer.MAX_VALUE};
    String[] texts = {"bits a16;a[15:1]=a[14:0];not a=%0000000000000000;", "bits a8;a.a=%1.a.%0000000;",
        "bits h16;h=h;not h[0:0].h[15:1]=h;", "%1=%0;", "not %1=%1;", "", "bits", "[[[", "%%%"};
    for (String text : texts) {
      SliceSolver x = new SliceSolver();
      for (int i = 0; i < text.length(); i++) x.append(text.charAt(i));
      x.load();
      for (int n : edges) {
        x.append(n);
        x.width(n);
        x.sliceCount(n);
        x.value(n);
        x.isImplied(n);
        x.save(n);
        for (int m : edges) {
          x.sliceStart(n, m);
          x.sliceWidth(n, m);
          x.representative(n, m);
          x.fixedBit(n, m);
          x.compareBits(n, m, 0, 0);
          x.compareBits(0, 0, n, m);
        }
      }
      for (int n : edges) {
        x.load();
        x.removeEquation(n);
        x.removeDisequation(n);
        x.undo();
        x.restore(n);
        x.conflictSet();
        x.firstConflict();
        x.oneBits();
      }
    }
  }
}
