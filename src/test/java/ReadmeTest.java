import java.lang.reflect.Method;
import java.lang.reflect.Modifier;
import java.nio.file.Files;
import java.nio.file.Path;
import java.util.ArrayList;
import java.util.List;
import java.util.regex.Matcher;
import java.util.regex.Pattern;

/** README.md: each call of its examples answers what stands behind it, and no call of the face is left out. */
public final class ReadmeTest {
  private static final Check check = new Check("ReadmeTest");
  private static final Pattern CALL = Pattern.compile("^abbey\\.(\\w+)\\(([^)]*)\\); +// (-?\\w+)", Pattern.MULTILINE);

  public static void main(String[] args) throws Exception {
    String page = Files.readString(Path.of(args[0]).resolve("../../../../README.md").normalize());
    List<String> examples = between(page, "```java\nSmellAbbey", "```");
    List<String> texts = between(page, "```text\n", "```");
    List<String> runs = between(page, "```java\nabbey", "```");
    check.due("examples that feed by themselves", examples.size(), 1);
    check.due("texts", texts.size(), 1);
    check.due("runs on such a text", runs.size(), 1);
    answers(new SmellAbbey(), examples.get(0), 4);
    answers(Check.abbey(texts.get(0)), "abbey" + runs.get(0), 21);
    for (Method method : SmellAbbey.class.getDeclaredMethods()) {
      String name = method.getName();
      boolean isFace = Modifier.isPublic(method.getModifiers());
      check.due(name + " is named", !isFace || page.contains("`" + name + "`"), true);
    }
    check.end();
  }

  private static List<String> between(String page, String start, String end) {
    List<String> found = new ArrayList<>();
    for (int at = page.indexOf(start); at >= 0; at = page.indexOf(start, at + 1)) {
      int from = at + start.length();
      found.add(page.substring(from, page.indexOf(end, from)));
    }
    return found;
  }

  private static void answers(SmellAbbey abbey, String example, int calls) throws Exception {
    Matcher call = CALL.matcher(example);
    int seen = 0;
    while (call.find()) {
      String got = String.valueOf(answer(abbey, call.group(1), call.group(2)));
      check.due(call.group(1) + "(" + call.group(2) + ")", got, call.group(3));
      seen++;
    }
    check.due("calls in an example", seen, calls);
  }

  private static Object answer(SmellAbbey abbey, String name, String written) throws Exception {
    String[] parts = written.isEmpty() ? new String[0] : written.split(", ");
    Class<?>[] types = new Class<?>[parts.length];
    Object[] values = new Object[parts.length];
    for (int i = 0; i < parts.length; i++) {
      boolean isTruth = parts[i].equals("true") || parts[i].equals("false");
      types[i] = isTruth ? boolean.class : int.class;
      values[i] = isTruth ? (Object) Boolean.valueOf(parts[i]) : (Object) Integer.decode(parts[i]);
    }
    return SmellAbbey.class.getMethod(name, types).invoke(abbey, values);
  }
}
