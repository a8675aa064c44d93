import java.nio.charset.StandardCharsets;
import java.util.NoSuchElementException;

/** What the tests share: comparing answers, and telling an abbey a text by its tape. */
final class Check {
  private final String name;
  private int asked;
  private int wrong;

  Check(String name) {
    this.name = name;
  }

  void due(String call, long got, long want) {
    asked++;
    if (got != want) {
      wrong++;
      System.out.println(name + ": " + call + " answered " + got + ", due is " + want);
    }
  }

  void due(String call, boolean got, boolean want) {
    due(call, got ? 1 : 0, want ? 1 : 0);
  }

  void due(String call, String got, String want) {
    asked++;
    if (!got.equals(want)) {
      wrong++;
      System.out.println(name + ": " + call + " answered " + got + ", due is " + want);
    }
  }

  void end() {
    System.out.println(name + ": " + asked + " asked, " + wrong + " wrong");
    if (wrong > 0 || asked == 0) {
      System.exit(1);
    }
  }

  static int feedAll(SmellAbbey abbey, byte[] bytes) {
    int answer = 0;
    for (int at = 0; at < bytes.length; at += 20) {
      int[] numbers = numbersAt(bytes, at);
      answer = abbey.feed(numbers[0], numbers[1], numbers[2], numbers[3], numbers[4]);
    }
    return answer;
  }

  static int[] numbersAt(byte[] bytes, int at) {
    int[] numbers = new int[5];
    for (int i = 0; i < 20; i++) {
      int sign = at + i < bytes.length ? bytes[at + i] & 255 : 32;
      numbers[i / 4] = numbers[i / 4] << 8 | sign;
    }
    return numbers;
  }

  static byte[] bytes(String text) {
    return text.getBytes(StandardCharsets.ISO_8859_1);
  }

  static int tell(SmellAbbey abbey, String text) {
    feedAll(abbey, bytes(text));
    return abbey.text(text.length());
  }

  static SmellAbbey abbey(String text) {
    SmellAbbey abbey = new SmellAbbey();
    if (tell(abbey, text) < 0) {
      throw new IllegalArgumentException("fault " + abbey.fault(0) + " at " + abbey.fault(1) + " in " + text);
    }
    return abbey;
  }

  /** What monk() throws: 0 nothing, 1 that there is no such monk, 2 that there is no such what, 3 something else of these kinds. */
  static int thrown(SmellAbbey x, int monk, int what) {
    try {
      x.monk(monk, what);
      return 0;
    } catch (IndexOutOfBoundsException e) {
      return e.getClass() == IndexOutOfBoundsException.class ? 1 : 3;
    } catch (NoSuchElementException e) {
      return e.getClass() == NoSuchElementException.class ? 2 : 3;
    }
  }

  static int letters(String name) {
    int packed = 0;
    for (int i = 0; i < 6; i++) {
      packed = packed * 32 + (i < name.length() ? name.charAt(i) - 'a' + 1 : 0);
    }
    return packed;
  }
}
