import java.lang.reflect.Constructor;
import java.lang.reflect.Field;
import java.lang.reflect.Method;
import java.lang.reflect.Modifier;
import java.nio.file.Files;
import java.nio.file.Path;
import java.util.Arrays;
import java.util.List;
import java.util.NoSuchElementException;
import java.util.Set;
import java.util.TreeSet;
import java.util.regex.Matcher;
import java.util.regex.Pattern;

/** The document's face, exactly, and those rules of LANGUAGE.md that can be seen from outside or from the source. */
public final class FaceTest {
  private static final Check check = new Check("FaceTest");
  private static final List<String> FACE = List.of("int feed(int, int, int, int, int)", "int text(int)", "int fault(int)",
      "int named(int, int)", "int monk(int, int)", "int stuff(int, int)", "int mix(int, int)", "int feast(int)", "int air(int, int)",
      "int mark(int, int)", "long law(int, int, int)", "boolean cold(int, int, boolean)", "boolean wind(int, int)", "int buy(int, int)",
      "boolean goes(int, int)", "int go(int)", "int mixedUp(int)", "int pair(int, int)", "int mending(int, int, int, int)",
      "int placeTo(int, int)", "int lasts(int)", "int needs(int, int)", "int dearest(int)", "int inPlace(int, int)",
      "int letter(int, int, int)", "int firstWrong(int)", "int rests(int)", "int rest(int, int)", "int note(int, int, int, boolean)",
      "int out(int)", "boolean known(int)", "int colds(int)", "int chance(int, int, int)", "int tried(int, int, int)", "int undo()",
      "int keep()", "int back()", "int count(int)");

  public static void main(String[] args) throws Exception {
    face();
    nested();
    source(Files.readString(Path.of(args[0])));
    check.end();
  }

  private static String written(Method method) {
    StringBuilder text = new StringBuilder(method.getReturnType() + " " + method.getName() + "(");
    Class<?>[] types = method.getParameterTypes();
    for (int i = 0; i < types.length; i++) {
      text.append(i > 0 ? ", " : "").append(types[i]);
    }
    return text.append(')').toString();
  }

  private static void face() throws Exception {
    check.due("public and final", SmellAbbey.class.getModifiers() & (Modifier.PUBLIC | Modifier.FINAL), Modifier.PUBLIC | Modifier.FINAL);
    Set<String> found = new TreeSet<>();
    Set<String> names = new TreeSet<>();
    Set<String> others = new TreeSet<>();
    for (Method method : SmellAbbey.class.getDeclaredMethods()) {
      if (Modifier.isPrivate(method.getModifiers())) {
        others.add(method.getName());
      } else {
        found.add(written(method));
        names.add(method.getName());
        check.due(method + " is public, not static", method.getModifiers(), Modifier.PUBLIC);
      }
    }
    check.due("the face is the document's: " + found, found.equals(new TreeSet<>(FACE)), true);
    others.retainAll(names);
    check.due("private ones bear no public name: " + others, others.size(), 0);
    Constructor<?>[] makers = SmellAbbey.class.getDeclaredConstructors();
    check.due("one constructor", makers.length, 1);
    check.due("without arguments, public", makers[0].getParameterCount() * 8 + makers[0].getModifiers(), Modifier.PUBLIC);
    for (Field field : SmellAbbey.class.getDeclaredFields()) {
      check.due(field + " is private but NONE", Modifier.isPrivate(field.getModifiers()), !field.getName().equals("NONE"));
    }
    check.due("NONE", SmellAbbey.NONE, -1);
    Method monk = SmellAbbey.class.getMethod("monk", int.class, int.class);
    List<Class<?>> thrown = Arrays.asList(monk.getExceptionTypes());
    check.due("monk throws", thrown.contains(IndexOutOfBoundsException.class) && thrown.contains(NoSuchElementException.class), true);
  }

  private static void nested() {
    Class<?>[] classes = SmellAbbey.class.getDeclaredClasses();
    check.due("some twelve classes", classes.length <= 11, true);
    for (Class<?> one : classes) {
      check.due(one + " is private and static", one.getModifiers() & (Modifier.PRIVATE | Modifier.STATIC), Modifier.PRIVATE | Modifier.STATIC);
      int fields = 0;
      for (Field field : one.getDeclaredFields()) {
        boolean isStatic = Modifier.isStatic(field.getModifiers());
        fields += isStatic ? 0 : 1;
        check.due(field + " is final if static", !isStatic || Modifier.isFinal(field.getModifiers()), true);
      }
      check.due(one + " has some twenty fields at most", fields <= 20, true);
      for (Method method : one.getDeclaredMethods()) {
        check.due(method + " takes seven at most", method.getParameterCount() <= 7, true);
      }
    }
  }

  private static void source(String text) {
    String bare = text.replaceAll("(?s)/\\*.*?\\*/", "").replaceAll("\"[^\"\n]*\"", "\"\"");
    String[] ruledOut = {"\\btry\\b", "\\bcatch\\b", "\\bfinally\\b", "\\bsynchronized\\b", "\\bassert\\b", "->", "::", "Exact\\b", "\\bpackage\\b",
        "\\bnull\\b", "\\.equals\\(", "hashCode", "toString", "\\bdouble\\b", "\\bfloat\\b", "\\bObject\\b", "\\bvar\\b", "\"\"\\s*\\+", "\\+\\s*\"\"",
        "\\bwhile \\(true\\)", "for \\(;;\\)", "[^\\x00-\\x7f]"};
    for (String pattern : ruledOut) {
      check.due("no " + pattern, Pattern.compile(pattern).matcher(bare).find(), false);
    }
    Matcher imports = Pattern.compile("import ([^;]*);").matcher(bare);
    while (imports.find()) {
      check.due("import " + imports.group(1), imports.group(1).equals("java.util.NoSuchElementException"), true);
    }
    Matcher system = Pattern.compile("System\\.(\\w+)").matcher(bare);
    while (system.find()) {
      check.due("System." + system.group(1), system.group(1).equals("arraycopy"), true);
    }
    Matcher made = Pattern.compile("new (\\w+)").matcher(bare);
    Set<String> own = Set.of("int", "byte", "long", "boolean", "Reader", "Scanner", "Notes", "Undoing", "State", "Numbers", "Told", "Laws",
        "IndexOutOfBoundsException", "NoSuchElementException");
    while (made.find()) {
      check.due("new " + made.group(1), own.contains(made.group(1)), true);
    }
    methodsAreShort(text.split("\n"));
    onlyFieldsAreMade(bare.split("\n"));
  }

  /** Rows are made with the abbey and used again: a call makes nothing but what it throws. */
  private static void onlyFieldsAreMade(String[] lines) {
    for (String line : lines) {
      boolean isField = line.trim().matches("(private |final )+\\S+ \\w+ = new .*");
      boolean isThrown = line.trim().startsWith("throw new ");
      check.due("only fields are made: " + line.trim(), isField || isThrown || !line.contains("new "), true);
    }
  }

  private static void methodsAreShort(String[] lines) {
    int start = -1;
    String end = "";
    for (int i = 0; i < lines.length; i++) {
      Matcher head = Pattern.compile("^( {4}| {8})(?!.*\\bclass\\b)\\S.*\\) (throws .*)?\\{$").matcher(lines[i]);
      if (start < 0 && head.matches()) {
        start = i;
        end = head.group(1) + "}";
      } else if (start >= 0 && lines[i].equals(end)) {
        check.due("lines of " + lines[start].trim(), i - start < 60, true);
        start = -1;
      }
    }
    check.due("methods end", start, -1);
  }
}
