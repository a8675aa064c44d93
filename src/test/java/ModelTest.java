import java.util.ArrayList;
import java.util.List;
import java.util.NoSuchElementException;
import java.util.Random;

/** Runs of calls drawn by chance (from fixed seeds), each answer compared with the model's; nothing else may be thrown. */
public final class ModelTest {
  private static final Check check = new Check("ModelTest");
  private static final int[] ODD = {-1, -2, 0, 1, 5, 6, 7, 8, 9, 10, 24, 25, 32, 39, 40, 41, 98, 99, 100, 101, 200, 512, 999, 1000, 9999, 10000,
      Integer.MAX_VALUE, Integer.MIN_VALUE, Integer.MAX_VALUE - 1, Integer.MIN_VALUE + 1, 65536};
  private static final String[] LINES = {"stuff", "day", "mix", "room", "monk", "linger", "seed", "law", "feast", "air", "keen", "worth",
      "or", "and", "not", "much", "part", "left", "wind", "date", "place", "nose", ";", "(", ")", "<", "<=", "=", "<>", ">=", ">", "+", "-", "*",
      "/", "a", "bb", "abcdefg", "0", "1", "100", "10000", " ", "\n", "@", "\u00e9"};

  private final Random random;
  private SmellAbbey real = new SmellAbbey();
  private Model model = new Model();
  private final StringBuilder trail = new StringBuilder();

  private ModelTest(long seed) {
    random = new Random(seed);
  }

  public static void main(String[] args) {
    int runs = args.length > 1 ? Integer.parseInt(args[1]) : 1500;
    int from = args.length > 2 ? Integer.parseInt(args[2]) : 0;
    int before = 0;
    for (int seed = from; seed < from + runs && before < 5; seed++) {
      ModelTest test = new ModelTest(seed);
      before += test.run() ? 0 : 1;
    }
    check.end();
  }

  private boolean run() {
    boolean fine = true;
    int texts = 1 + random.nextInt(3);
    int left = 512;
    for (int i = 0; i < texts && fine; i++) {
      String text = random.nextInt(3) > 0 ? text() : broken(text());
      left -= text.length() / 20 + 4;
      fine = tell(text);
      int calls = Math.min(left, 20 + random.nextInt(140));
      left -= calls;
      for (int call = 0; call < calls && fine; call++) {
        fine = call();
      }
    }
    if (!fine) {
      System.out.println(trail);
    }
    return fine;
  }

  private int pick(int n) {
    return random.nextInt(10) == 0 ? odd() : random.nextInt(n);
  }

  private int odd() {
    return ODD[random.nextInt(ODD.length)];
  }

  private int number(int least, int most) {
    return random.nextInt(25) == 0 ? odd() : least + random.nextInt(most - least + 1);
  }

  private boolean same(String call, long got, long want) {
    trail.append(call).append(" -> ").append(got).append('\n');
    check.due(call, got, want);
    return got == want;
  }

  private boolean tell(String text) {
    byte[] bytes = Check.bytes(text);
    boolean fine = true;
    trail.append(text).append('\n');
    for (int at = 0; at < bytes.length; at += 20) {
      int[] n = Check.numbersAt(bytes, at);
      fine &= same("feed", real.feed(n[0], n[1], n[2], n[3], n[4]), model.feed(n[0], n[1], n[2], n[3], n[4]));
    }
    int n = random.nextInt(40) == 0 ? odd() : Math.min(700, bytes.length);
    fine &= same("text(" + n + ")", real.text(n), model.text(n));
    fine &= same("fault(0)", real.fault(0), model.fault(0));
    return fine & same("fault(1)", real.fault(1), model.fault(1));
  }

  private String text() {
    int stuffs = random.nextInt(6) + (random.nextInt(4) > 0 ? 1 : 0);
    int days = random.nextInt(8) + (random.nextInt(4) > 0 ? 1 : 0);
    int rooms = random.nextInt(5) + (random.nextInt(6) > 0 ? 1 : 0);
    int monks = rooms == 0 ? 0 : random.nextInt(5) + (random.nextInt(6) > 0 ? 1 : 0);
    if (random.nextInt(30) == 0) {
      stuffs += 3;
      days += 3;
    }
    int keen = 1 + random.nextInt(random.nextBoolean() ? 9 : 60);
    List<String> lines = new ArrayList<>();
    for (int i = 0; i < stuffs; i++) {
      lines.add("stuff " + name(i) + " " + random.nextInt(random.nextBoolean() ? 1000 : 60));
    }
    for (int i = 0; i < days; i++) {
      lines.add("day " + name(i) + (random.nextInt(3) == 0 ? " feast" : ""));
    }
    for (int i = 0; i < rooms; i++) {
      lines.add("room " + name(i) + " " + (random.nextInt(3) == 0 ? 100 : random.nextInt(101)));
    }
    for (int i = 0; i < monks; i++) {
      lines.add("monk " + name(i) + " " + name(random.nextInt(rooms)) + " " + Math.min(99, 1 + random.nextInt(keen)));
    }
    mixes(lines, stuffs, days, keen);
    if (random.nextInt(2) == 0) {
      lines.add("linger " + random.nextInt(101));
    }
    if (random.nextInt(6) == 0) {
      lines.add("seed " + random.nextInt(100000));
    }
    String[] rules = {"air", "keen", "worth"};
    for (String rule : rules) {
      if (random.nextInt(2) == 0) {
        lines.add("law " + rule + " " + formula(random.nextInt(5)));
      }
    }
    StringBuilder text = new StringBuilder();
    for (String line : lines) {
      text.append(line).append(random.nextInt(20) == 0 ? " ;\n" : ";");
    }
    return text.length() > 700 ? text.substring(0, text.lastIndexOf(";", 699) + 1) : text.toString();
  }

  private void mixes(List<String> lines, int stuffs, int days, int keen) {
    int mixes = 0;
    for (int day = 0; day < days; day++) {
      for (int stuff = 0; stuff < stuffs; stuff++) {
        if (random.nextInt(2) == 0 && (mixes < 24 || random.nextInt(60) == 0)) {
          lines.add("mix " + name(day) + " " + name(stuff) + " " + Math.min(99, 1 + random.nextInt(2 * keen)));
          mixes++;
        }
      }
    }
  }

  private static String name(int i) {
    return i % 3 == 2 ? "z" + (char) ('a' + i) : String.valueOf((char) ('a' + i));
  }

  private String formula(int depth) {
    String[] signs = {"+", "-", "*", "/", "<", "<=", "=", "<>", ">=", ">", " and ", " or "};
    String[] names = {"much", "part", "left", "wind", "date", "place", "nose"};
    if (depth <= 0) {
      return random.nextInt(3) == 0 ? String.valueOf(random.nextInt(random.nextInt(5) == 0 ? 10000 : 12)) : names[random.nextInt(names.length)];
    }
    switch (random.nextInt(8)) {
      case 0:
        return "(" + formula(depth - 1) + ")";
      case 1:
        return "not " + formula(depth - 1);
      case 2:
        return "(" + formula(depth - 1) + ")" + signs[random.nextInt(signs.length)] + "(" + formula(depth - 1) + ")";
      case 3:
        return formula(depth - 1) + signs[random.nextInt(4)] + formula(depth - 2);
      default:
        return formula(depth - 1) + signs[random.nextInt(signs.length)] + formula(depth - 1);
    }
  }

  private String broken(String text) {
    StringBuilder broken = new StringBuilder(text);
    for (int i = random.nextInt(3); i >= 0; i--) {
      int at = random.nextInt(broken.length() + 1);
      int to = Math.min(broken.length(), at + random.nextInt(8));
      switch (random.nextInt(5)) {
        case 0:
          broken.delete(at, to);
          break;
        case 1:
          broken.setLength(at);
          break;
        case 2:
          broken.insert(at, broken.substring(at, to));
          break;
        default:
          broken.insert(at, LINES[random.nextInt(LINES.length)]);
          break;
      }
    }
    return broken.length() > 700 ? broken.substring(0, 700) : broken.toString();
  }

  private long realMonk(int monk, int what) {
    try {
      return real.monk(monk, what);
    } catch (IndexOutOfBoundsException e) {
      return -1001;
    } catch (NoSuchElementException e) {
      return -1002;
    }
  }

  private boolean call() {
    int s = pick(6);
    int t = pick(6);
    int d = pick(8);
    int d2 = pick(8);
    int m = pick(5);
    int r = pick(6);
    int k = number(0, 9);
    boolean is = random.nextBoolean();
    switch (random.nextInt(46)) {
      case 0:
        return same("named", real.named(k % 6, Check.letters(name(d & 7))), model.named(k % 6, Check.letters(name(d & 7))));
      case 1:
      case 40:
        return same("monk " + m + " " + k % 6, realMonk(m, k % 6), model.monk(m, k % 6));
      case 2:
        return same("stuff " + s + " " + k % 4, real.stuff(s, k % 4), model.stuff(s, k % 4));
      case 3:
        return same("mix " + d + " " + s, real.mix(d, s), model.mix(d, s));
      case 4:
        return same("feast " + d, real.feast(d), model.feast(d));
      case 5:
      case 41:
        return same("air " + r + " " + s, real.air(r, s), model.air(r, s));
      case 6:
        return same("mark " + m + " " + d, real.mark(m, d), model.mark(m, d));
      case 7:
        return same("law " + k % 4 + " " + r + " " + s, real.law(k % 4, r, s), model.law(k % 4, r, s));
      case 8:
      case 42:
        return same("cold " + m + " " + s + " " + is, real.cold(m, s, is) ? 1 : 0, model.cold(m, s, is) ? 1 : 0);
      case 9:
      case 43:
        return wind(s);
      case 10:
        return buy(s);
      case 11:
        return same("goes " + m + " " + r, real.goes(m, r) ? 1 : 0, model.goes(m, r) ? 1 : 0);
      case 12:
      case 44:
        return go();
      case 13:
        return same("mixedUp " + m, real.mixedUp(m), model.mixedUp(m));
      case 14:
        return same("pair " + m + " " + k, real.pair(m, k), model.pair(m, k));
      case 15:
        return same("mending " + m + " " + d + " " + d2 + " " + k % 3, real.mending(m, d, d2, k % 3), model.mending(m, d, d2, k % 3));
      case 16:
        return same("placeTo " + m + " " + k % 3, real.placeTo(m, k % 3), model.placeTo(m, k % 3));
      case 17:
        return same("lasts " + k % 3, real.lasts(k % 3), model.lasts(k % 3));
      case 18:
        return needs(s);
      case 19:
        return same("dearest " + k % 3, real.dearest(k % 3), model.dearest(k % 3));
      case 20:
        return same("inPlace " + s + " " + t, real.inPlace(s, t), model.inPlace(s, t));
      case 21:
        return same("letter " + d + " " + m + " " + k, real.letter(d, m, k), model.letter(d, m, k));
      default:
        return rarer(m, d, k, is);
    }
  }

  private boolean wind(int s) {
    int much = number(0, random.nextBoolean() ? 12 : 99);
    return same("wind " + s + " " + much, real.wind(s, much) ? 1 : 0, model.wind(s, much) ? 1 : 0);
  }

  private boolean buy(int s) {
    int much = number(1, 999);
    return same("buy " + s + " " + much, real.buy(s, much), model.buy(s, much));
  }

  private boolean go() {
    int n = number(0, random.nextInt(12) == 0 ? 99 : 3);
    return same("go " + n, real.go(n), model.go(n));
  }

  private boolean needs(int s) {
    int n = number(0, 99);
    return same("needs " + s + " " + n, real.needs(s, n), model.needs(s, n));
  }

  private boolean rarer(int m, int d, int k, boolean is) {
    int n = number(1, 40);
    int much = number(1, random.nextBoolean() ? 12 : 99);
    switch (random.nextInt(17)) {
      case 0:
        return same("firstWrong " + n, real.firstWrong(n), model.firstWrong(n));
      case 1:
        return same("rests " + much, real.rests(much), model.rests(much));
      case 2:
        return same("rest " + much + " " + k, real.rest(much, k), model.rest(much, k));
      case 3:
      case 4:
        return note(m, d, is);
      case 5:
        return same("out " + k, real.out(k), model.out(k));
      case 6:
        int by = number(-1, 9);
        return same("known " + by, real.known(by) ? 1 : 0, model.known(by) ? 1 : 0);
      case 7:
      case 8:
        return same("colds " + m, real.colds(m), model.colds(m));
      case 9:
        int seed = random.nextInt(8) == 0 ? odd() : random.nextInt() >>> 1;
        int often = number(0, n < 0 || n > 40 ? 40 : n);
        return same("chance " + seed + " " + n + " " + often, real.chance(seed, n, often), model.chance(seed, n, often));
      case 10:
      case 11:
        int what = number(0, 5);
        int i = what == 3 ? m : random.nextInt(9) == 0 ? m : 0;
        return same("tried " + what + " " + i + " " + n, real.tried(what, i, n), model.tried(what, i, n));
      case 12:
        return same("undo", real.undo(), model.undo());
      case 13:
        return random.nextInt(2) > 0 || same("keep", real.keep(), model.keep());
      case 14:
        return random.nextInt(2) > 0 || same("back", real.back(), model.back());
      default:
        int count = number(0, 13);
        return same("count " + count, real.count(count), model.count(count));
    }
  }

  /** Mostly what was so without a cold, so that notes seldom rule out everything. */
  private boolean note(int m, int d, boolean is) {
    int mornings = number(1, random.nextBoolean() ? 40 : 6);
    int days = Math.max(1, real.count(1));
    int day = random.nextInt(3) > 0 && mornings > 0 ? (mornings - 1) % days : d;
    boolean so = day == (mornings - 1) % days || is;
    return same("note " + mornings + " " + m + " " + day + " " + so, real.note(mornings, m, day, so), model.note(mornings, m, day, so));
  }
}
