import java.math.BigInteger;
import java.util.ArrayList;
import java.util.Arrays;
import java.util.HashMap;
import java.util.LinkedHashMap;
import java.util.List;
import java.util.Map;
import java.util.function.BiPredicate;

/**
 * The document once more, written apart from the program and in another way: tokens cut by a pattern, trees worked out
 * by themselves, states made anew for each question. Slow, and used by ModelTest alone.
 */
final class Model {
  static final long ERR = Long.MIN_VALUE;
  private static final List<String> LANGUAGE = List.of("stuff", "day", "feast", "mix", "room", "monk", "linger", "seed", "law",
      "air", "keen", "worth", "or", "and", "not", "much", "part", "left", "wind", "date", "place", "nose");
  private static final List<String> VARIABLES = List.of("much", "part", "left", "wind", "date", "place", "nose");
  private static final BigInteger TOP = BigInteger.TEN.pow(12);

  /** A fault with its place. */
  static final class Fault extends RuntimeException {
    private static final long serialVersionUID = 1;
    final int kind;
    final int place;

    Fault(int kind, int place) {
      this.kind = kind;
      this.place = place;
    }
  }

  private record Token(String text, int place) {
  }

  private record Stuff(String name, int store) {
  }

  private record Day(String name, boolean feast) {
  }

  private record Room(String name, int part) {
  }

  private record Monk(String name, int room, int nose) {
  }

  private interface Node {
    /** Null is an error. */
    BigInteger work(Map<String, Integer> names);
  }

  /** What a text tells. */
  private static final class Book {
    final List<Stuff> stuffs = new ArrayList<>();
    final List<Day> days = new ArrayList<>();
    final List<Room> rooms = new ArrayList<>();
    final List<Monk> monks = new ArrayList<>();
    final Map<List<Integer>, Integer> mixes = new LinkedHashMap<>();
    final Map<String, Node> laws = new HashMap<>();
    int linger = -1;
    int seed = -1;
    int knots;
    int lines;

    int mix(int day, int stuff) {
      return mixes.getOrDefault(List.of(day, stuff), 0);
    }

    int linger() {
      return Math.max(linger, 0);
    }
  }

  /** Reads a text by going down its grammar. */
  private static final class Parser {
    private final List<Token> tokens = new ArrayList<>();
    private final Book book = new Book();
    private int at;
    private int open;

    Parser(String text) {
      java.util.regex.Matcher m = java.util.regex.Pattern.compile("[a-z]+|[0-9]+|<=|<>|>=|[^ \n]", java.util.regex.Pattern.DOTALL).matcher(text);
      while (m.find()) {
        tokens.add(new Token(m.group(), m.start()));
      }
      tokens.add(new Token("", text.length()));
    }

    private String see() {
      return tokens.get(at).text();
    }

    private Fault fault(int kind) {
      return new Fault(kind, tokens.get(at).place());
    }

    private void must(String text) {
      if (!see().equals(text)) {
        throw fault(1);
      }
      at++;
    }

    private boolean isName() {
      return see().matches("[a-z]{1,6}") && !LANGUAGE.contains(see());
    }

    private String name() {
      if (!isName()) {
        throw fault(1);
      }
      return see();
    }

    private int number(int least, int most) {
      if (!see().matches("[0-9]+")) {
        throw fault(1);
      }
      BigInteger value = new BigInteger(see());
      if (value.compareTo(BigInteger.valueOf(least)) < 0 || value.compareTo(BigInteger.valueOf(most)) > 0) {
        throw fault(2);
      }
      at++;
      return value.intValue();
    }

    Book parse() {
      while (!see().isEmpty()) {
        line();
        must(";");
        book.lines++;
      }
      return book;
    }

    private String fresh(List<String> names, int most) {
      if (names.size() >= most) {
        throw fault(2);
      }
      at++;
      if (names.contains(name())) {
        throw fault(3);
      }
      at++;
      return tokens.get(at - 1).text();
    }

    private int told(List<String> names) {
      int number = names.indexOf(name());
      if (number < 0) {
        throw fault(4);
      }
      return number;
    }

    private List<String> stuffNames() {
      return book.stuffs.stream().map(Stuff::name).toList();
    }

    private List<String> dayNames() {
      return book.days.stream().map(Day::name).toList();
    }

    private List<String> roomNames() {
      return book.rooms.stream().map(Room::name).toList();
    }

    private void line() {
      switch (see()) {
        case "stuff" -> {
          String name = fresh(stuffNames(), 6);
          book.stuffs.add(new Stuff(name, number(0, 999)));
        }
        case "day" -> {
          String name = fresh(dayNames(), 8);
          boolean feast = see().equals("feast");
          if (feast) {
            at++;
          }
          book.days.add(new Day(name, feast));
        }
        case "room" -> {
          String name = fresh(roomNames(), 6);
          book.rooms.add(new Room(name, number(0, 100)));
        }
        case "monk" -> {
          String name = fresh(book.monks.stream().map(Monk::name).toList(), 5);
          int room = told(roomNames());
          at++;
          book.monks.add(new Monk(name, room, number(1, 99)));
        }
        case "mix" -> mixLine();
        case "linger" -> {
          if (book.linger >= 0) {
            throw fault(3);
          }
          at++;
          book.linger = number(0, 100);
        }
        case "seed" -> {
          if (book.seed >= 0) {
            throw fault(3);
          }
          at++;
          book.seed = number(0, 99999);
        }
        case "law" -> lawLine();
        default -> throw fault(1);
      }
    }

    private void mixLine() {
      if (book.mixes.size() >= 24) {
        throw fault(2);
      }
      at++;
      int day = told(dayNames());
      at++;
      int stuff = told(stuffNames());
      if (book.mixes.containsKey(List.of(day, stuff))) {
        throw fault(3);
      }
      at++;
      book.mixes.put(List.of(day, stuff), number(1, 99));
    }

    private void lawLine() {
      at++;
      String rule = see();
      if (!List.of("air", "keen", "worth").contains(rule)) {
        throw fault(1);
      }
      if (book.laws.containsKey(rule)) {
        throw fault(3);
      }
      at++;
      book.laws.put(rule, either());
    }

    private void knot() {
      if (book.knots >= 64) {
        throw fault(2);
      }
      book.knots++;
      at++;
    }

    private Node either() {
      Node left = both();
      while (see().equals("or")) {
        left = joined(left, this::both);
      }
      return left;
    }

    private Node both() {
      Node left = negated();
      while (see().equals("and")) {
        left = joined(left, this::negated);
      }
      return left;
    }

    private Node negated() {
      if (!see().equals("not")) {
        return compared();
      }
      knot();
      Node of = negated();
      return names -> {
        BigInteger value = of.work(names);
        return value == null ? null : value.signum() == 0 ? BigInteger.ONE : BigInteger.ZERO;
      };
    }

    private Node compared() {
      Node left = sum();
      if (List.of("<", "<=", "=", "<>", ">=", ">").contains(see())) {
        left = joined(left, this::sum);
      }
      return left;
    }

    private Node sum() {
      Node left = product();
      while (see().equals("+") || see().equals("-")) {
        left = joined(left, this::product);
      }
      return left;
    }

    private Node product() {
      Node left = primary();
      while (see().equals("*") || see().equals("/")) {
        left = joined(left, this::primary);
      }
      return left;
    }

    private Node primary() {
      String text = see();
      if (text.equals("(")) {
        if (open == 8) {
          throw fault(2);
        }
        open++;
        at++;
        Node inside = either();
        must(")");
        open--;
        return inside;
      }
      if (text.matches("[0-9]+")) {
        BigInteger value = new BigInteger(text);
        if (value.compareTo(BigInteger.valueOf(9999)) > 0) {
          throw fault(2);
        }
        knot();
        return names -> value;
      }
      if (VARIABLES.contains(text)) {
        knot();
        return names -> BigInteger.valueOf(names.getOrDefault(text, 0));
      }
      throw fault(1);
    }

    private Node joined(Node left, java.util.function.Supplier<Node> next) {
      String sign = see();
      knot();
      Node right = next.get();
      return names -> {
        BigInteger a = left.work(names);
        BigInteger b = right.work(names);
        if (a == null || b == null) {
          return null;
        }
        BigInteger value = sign(sign, a, b);
        return value == null || value.abs().compareTo(TOP) > 0 ? null : value;
      };
    }

    private static BigInteger sign(String sign, BigInteger a, BigInteger b) {
      int order = a.compareTo(b);
      return switch (sign) {
        case "+" -> a.add(b);
        case "-" -> a.subtract(b);
        case "*" -> a.multiply(b);
        case "/" -> b.signum() == 0 ? null : a.divide(b);
        case "<" -> truth(order < 0);
        case "<=" -> truth(order <= 0);
        case "=" -> truth(order == 0);
        case "<>" -> truth(order != 0);
        case ">=" -> truth(order >= 0);
        case ">" -> truth(order > 0);
        case "and" -> truth(a.signum() != 0 && b.signum() != 0);
        default -> truth(a.signum() != 0 || b.signum() != 0);
      };
    }

    private static BigInteger truth(boolean is) {
      return is ? BigInteger.ONE : BigInteger.ZERO;
    }
  }

  /** How the house stands; copied whenever something is tried. */
  private static final class House {
    final Book book;
    int date;
    int kept = -1;
    int right;
    int wrong;
    int[] store;
    int[] wind;
    int[] room;
    int[] cold;
    int[] smelled;
    int[] thought;
    int[][] air;
    boolean fresh;
    boolean endless;
    boolean open;
    int away = -1;

    House(Book book) {
      this.book = book;
      store = book.stuffs.stream().mapToInt(Stuff::store).toArray();
      wind = new int[store.length];
      room = book.monks.stream().mapToInt(Monk::room).toArray();
      cold = new int[room.length];
      smelled = new int[room.length];
      thought = new int[room.length];
      Arrays.fill(thought, book.days.size() - 1);
      air = new int[book.rooms.size()][store.length];
    }

    House(House o) {
      book = o.book;
      date = o.date;
      kept = o.kept;
      right = o.right;
      wrong = o.wrong;
      store = o.store.clone();
      wind = o.wind.clone();
      room = o.room.clone();
      cold = o.cold.clone();
      smelled = o.smelled.clone();
      thought = o.thought.clone();
      air = new int[o.air.length][];
      for (int i = 0; i < air.length; i++) {
        air[i] = o.air[i].clone();
      }
      fresh = o.fresh;
      endless = o.endless;
      open = o.open;
      away = o.away;
    }

    long law(String rule, Map<String, Integer> names) {
      Node node = book.laws.get(rule);
      BigInteger value = node == null ? null : node.work(names);
      return value == null ? ERR : value.longValueExact();
    }

    int part(int room) {
      return open ? 100 : book.rooms.get(room).part();
    }

    long airLaw(int room, int stuff, int much) {
      int left = fresh ? 0 : air[room][stuff];
      return law("air", Map.of("much", much, "part", part(room), "left", left, "wind", wind[stuff], "date", date, "place", room));
    }

    long keenLaw(int monk, int room) {
      return law("keen", Map.of("part", part(room), "date", date, "place", room, "nose", book.monks.get(monk).nose()));
    }

    long worthLaw(int stuff) {
      return law("worth", Map.of("much", store[stuff], "date", date));
    }

    int keen(int monk, int room) {
      long value = keenLaw(monk, room);
      return value == ERR ? book.monks.get(monk).nose() : (int) Math.min(99, Math.max(1, value));
    }

    int worth(int stuff) {
      long value = worthLaw(stuff);
      return value == ERR ? 1 : (int) Math.min(999, Math.max(0, value));
    }

    int mark(int monk, int day, int room) {
      int bits = 0;
      for (int stuff = 0; stuff < store.length; stuff++) {
        boolean keen = book.mix(day, stuff) * part(room) / 100 >= keen(monk, room);
        if (keen && (cold[monk] & 1 << stuff) == 0) {
          bits |= 1 << stuff;
        }
      }
      return bits;
    }

    int today() {
      return book.days.isEmpty() ? -1 : date % book.days.size();
    }

    void morning() {
      int today = today();
      int[][] next = new int[air.length][store.length];
      for (int stuff = 0; stuff < store.length; stuff++) {
        int told = today < 0 ? 0 : book.mix(today, stuff);
        int much = endless ? told : Math.min(told, store[stuff]);
        for (int room = 0; room < air.length; room++) {
          long law = airLaw(room, stuff, much);
          int left = fresh ? 0 : air[room][stuff] * book.linger() / 100;
          next[room][stuff] = law == ERR ? much * part(room) / 100 + left + wind[stuff] : (int) Math.max(0, Math.min(9999, law));
        }
        store[stuff] -= endless ? 0 : much;
      }
      air = next;
      for (int monk = 0; monk < room.length; monk++) {
        think(monk);
      }
      if (today >= 0) {
        keep(today);
      }
      wind = new int[store.length];
      date++;
    }

    private void think(int monk) {
      smelled[monk] = 0;
      for (int stuff = 0; stuff < store.length; stuff++) {
        if (air[room[monk]][stuff] >= keen(monk, room[monk]) && (cold[monk] >> stuff) % 2 == 0) {
          smelled[monk] += 1 << stuff;
        }
      }
      int days = book.days.size();
      if (days == 0) {
        return;
      }
      int thinks = -1;
      for (int day = thought[monk] + 1; day <= thought[monk] + days && thinks < 0; day++) {
        if (mark(monk, day % days, room[monk]) == smelled[monk]) {
          thinks = day % days;
        }
      }
      thought[monk] = thinks < 0 ? (thought[monk] + 1) % days : thinks;
    }

    private void keep(int today) {
      long best = -1;
      kept = today;
      for (int day = 0; day < book.days.size(); day++) {
        long votes = 0;
        for (int monk = 0; monk < thought.length; monk++) {
          votes += monk != away && thought[monk] == day ? 1 : 0;
        }
        if (votes > 0 && votes > best) {
          best = votes;
          kept = day;
        }
      }
      right += kept == today ? 1 : 0;
      wrong += book.days.get(kept).feast() != book.days.get(today).feast() ? 1 : 0;
    }
  }

  private record Note(int mornings, int monk, int day, boolean is, int strikes) {
  }

  private final StringBuilder tape = new StringBuilder();
  private Book book = new Book();
  private House now = new House(book);
  private House image;
  private final List<House> undo = new ArrayList<>();
  private final List<Note> notes = new ArrayList<>();
  private int known = -1;
  private int faultKind;
  private int faultPlace = -1;

  int feed(int a, int b, int c, int d, int e) {
    if (tape.length() > 680) {
      return -1;
    }
    for (int number : new int[] {a, b, c, d, e}) {
      for (int i = 3; i >= 0; i--) {
        tape.append((char) (number >>> 8 * i & 255));
      }
    }
    return tape.length();
  }

  int text(int n) {
    if (n < 0 || n > tape.length()) {
      return -2;
    }
    String text = tape.substring(0, n);
    tape.setLength(0);
    try {
      book = new Parser(text).parse();
    } catch (Fault fault) {
      faultKind = fault.kind;
      faultPlace = fault.place;
      return -1;
    }
    faultKind = 0;
    faultPlace = -1;
    now = new House(book);
    image = null;
    undo.clear();
    notes.clear();
    known = -1;
    return book.lines;
  }

  int fault(int what) {
    return what == 0 ? faultKind : what == 1 ? faultPlace : -1;
  }

  int named(int what, int letters) {
    List<String> names = what == 0 ? book.stuffs.stream().map(Stuff::name).toList()
        : what == 1 ? book.days.stream().map(Day::name).toList()
        : what == 2 ? book.rooms.stream().map(Room::name).toList()
        : what == 3 ? book.monks.stream().map(Monk::name).toList() : List.of();
    for (int i = 0; i < names.size(); i++) {
      if (Check.letters(names.get(i)) == letters) {
        return i;
      }
    }
    return -1;
  }

  private static boolean in(int number, int least, int most) {
    return number >= least && number <= most;
  }

  private boolean isStuff(int i) {
    return in(i, 0, book.stuffs.size() - 1);
  }

  private boolean isDay(int i) {
    return in(i, 0, book.days.size() - 1);
  }

  private boolean isRoom(int i) {
    return in(i, 0, book.rooms.size() - 1);
  }

  private boolean isMonk(int i) {
    return in(i, 0, book.monks.size() - 1);
  }

  /** -1001 and -1002 stand for the two exceptions. */
  int monk(int monk, int what) {
    if (!isMonk(monk)) {
      return -1001;
    }
    return switch (what) {
      case 0 -> now.room[monk];
      case 1 -> book.monks.get(monk).nose();
      case 2 -> now.cold[monk];
      case 3 -> now.smelled[monk];
      case 4 -> now.thought[monk];
      default -> -1002;
    };
  }

  int stuff(int stuff, int what) {
    if (!isStuff(stuff)) {
      return -1;
    }
    return what == 0 ? now.store[stuff] : what == 1 ? now.worth(stuff) : what == 2 ? now.wind[stuff] : -1;
  }

  int mix(int day, int stuff) {
    return isDay(day) && isStuff(stuff) ? book.mix(day, stuff) : -1;
  }

  int feast(int day) {
    return !isDay(day) ? -1 : book.days.get(day).feast() ? 1 : 0;
  }

  int air(int room, int stuff) {
    return isRoom(room) && isStuff(stuff) ? now.air[room][stuff] : -1;
  }

  int mark(int monk, int day) {
    return isMonk(monk) && isDay(day) ? now.mark(monk, day, now.room[monk]) : -1;
  }

  long law(int what, int one, int stuff) {
    if (what == 0 && isRoom(one) && isStuff(stuff)) {
      return now.airLaw(one, stuff, 0);
    }
    if (what == 1 && isMonk(one)) {
      return now.keenLaw(one, now.room[one]);
    }
    return what == 2 && isStuff(stuff) ? now.worthLaw(stuff) : ERR;
  }

  private void change() {
    undo.add(new House(now));
    if (undo.size() > 20) {
      undo.remove(0);
    }
  }

  boolean cold(int monk, int stuff, boolean is) {
    if (!isMonk(monk) || !isStuff(stuff) || (now.cold[monk] >> stuff & 1) == (is ? 1 : 0)) {
      return false;
    }
    change();
    now.cold[monk] ^= 1 << stuff;
    return true;
  }

  boolean wind(int stuff, int much) {
    if (!isStuff(stuff) || !in(much, 0, 99) || now.wind[stuff] == much) {
      return false;
    }
    change();
    now.wind[stuff] = much;
    return true;
  }

  int buy(int stuff, int much) {
    if (!isStuff(stuff) || !in(much, 1, 999) || now.store[stuff] + much > 9999) {
      return -1;
    }
    change();
    return now.store[stuff] += much;
  }

  boolean goes(int monk, int room) {
    if (!isMonk(monk) || !isRoom(room) || now.room[monk] == room) {
      return false;
    }
    change();
    now.room[monk] = room;
    return true;
  }

  int go(int n) {
    if (!in(n, 0, 99) || now.date + n > 9999) {
      return -1;
    }
    for (int i = 0; i < n; i++) {
      now.morning();
      undo.clear();
    }
    return now.date;
  }

  private List<Integer> pairs(int monk, BiPredicate<Integer, Integer> alike) {
    List<Integer> pairs = new ArrayList<>();
    for (int one = 0; one < book.days.size(); one++) {
      for (int two = one + 1; two < book.days.size(); two++) {
        if (alike.test(one, two)) {
          pairs.add(10 * one + two);
        }
      }
    }
    return pairs;
  }

  private List<Integer> pairs(int monk) {
    return pairs(monk, (one, two) -> mark(monk, one) == mark(monk, two));
  }

  int mixedUp(int monk) {
    return isMonk(monk) ? pairs(monk).size() : -1;
  }

  int pair(int monk, int k) {
    if (!isMonk(monk) || k < 0) {
      return -1;
    }
    List<Integer> pairs = pairs(monk);
    return k < pairs.size() ? pairs.get(k) : -2;
  }

  int mending(int monk, int one, int other, int what) {
    if (!isMonk(monk) || !isDay(one) || !isDay(other) || one == other || !in(what, 0, 1)) {
      return -1;
    }
    int first = Math.min(one, other);
    int later = Math.max(one, other);
    if (mark(monk, first) != mark(monk, later)) {
      return -3;
    }
    for (int more = 1; more <= 99; more++) {
      for (int stuff = 0; stuff < book.stuffs.size(); stuff++) {
        Integer before = book.mixes.get(List.of(later, stuff));
        book.mixes.put(List.of(later, stuff), (before == null ? 0 : before) + more);
        boolean mended = mark(monk, first) != mark(monk, later);
        if (before == null) {
          book.mixes.remove(List.of(later, stuff));
        } else {
          book.mixes.put(List.of(later, stuff), before);
        }
        if (mended) {
          return what == 0 ? stuff : more;
        }
      }
    }
    return -2;
  }

  int placeTo(int monk, int what) {
    if (!isMonk(monk) || !in(what, 0, 1)) {
      return -1;
    }
    long most = -1;
    int best = -1;
    for (int room = 0; room < book.rooms.size(); room++) {
      int there = room;
      long unlike = java.util.stream.IntStream.range(0, book.days.size()).map(d -> now.mark(monk, d, there)).distinct().count();
      if (unlike > most) {
        most = unlike;
        best = room;
      }
    }
    return what == 0 ? best : (int) most;
  }

  int lasts(int what) {
    if (!in(what, 0, 1)) {
      return -1;
    }
    House house = new House(now);
    for (int i = 0; i < 200; i++) {
      for (int stuff = 0; stuff < book.stuffs.size(); stuff++) {
        if (house.today() >= 0 && book.mix(house.today(), stuff) > house.store[stuff]) {
          return what == 0 ? i : stuff;
        }
      }
      house.morning();
    }
    return what == 0 ? 200 : -2;
  }

  int needs(int stuff, int n) {
    if (!isStuff(stuff) || !in(n, 0, 99)) {
      return -1;
    }
    for (int more = 0;; more++) {
      int store = now.store[stuff] + more;
      boolean enough = true;
      for (int i = 0; i < n && !book.days.isEmpty(); i++) {
        int mix = book.mix((now.date + i) % book.days.size(), stuff);
        enough = enough && store >= mix;
        store -= mix;
      }
      if (enough) {
        return more;
      }
    }
  }

  int dearest(int what) {
    if (!in(what, 0, 1) || book.days.isEmpty()) {
      return -1;
    }
    int[] costs = new int[book.days.size()];
    book.mixes.forEach((key, much) -> costs[key.get(0)] += much * now.worth(key.get(1)));
    int most = Arrays.stream(costs).max().getAsInt();
    int day = 0;
    while (costs[day] != most) {
      day++;
    }
    return what == 0 ? day : most;
  }

  int inPlace(int stuff, int other) {
    if (!isStuff(stuff) || !isStuff(other) || stuff == other) {
      return -1;
    }
    Map<List<Integer>, Integer> told = new LinkedHashMap<>(book.mixes);
    book.mixes.clear();
    told.forEach((key, much) -> {
      if (key.get(1) == stuff) {
        book.mixes.put(List.of(key.get(0), other), much);
      } else if (key.get(1) != other) {
        book.mixes.put(key, much);
      }
    });
    int many = 0;
    for (int monk = 0; monk < book.monks.size(); monk++) {
      many += pairs(monk).isEmpty() ? 1 : 0;
    }
    book.mixes.clear();
    book.mixes.putAll(told);
    return many;
  }

  int letter(int day, int monk, int n) {
    if (!isDay(day) || !isMonk(monk) || !in(n, 0, 10)) {
      return -1;
    }
    String smelled = written(day, monk, 100 - 10 * n);
    for (int like = 0; like < book.days.size(); like++) {
      if (written(like, monk, 100).equals(smelled)) {
        return like;
      }
    }
    return -2;
  }

  private String written(int day, int monk, int hundred) {
    StringBuilder bits = new StringBuilder();
    for (int stuff = 0; stuff < book.stuffs.size(); stuff++) {
      bits.append(book.mix(day, stuff) * hundred / 100 >= now.keen(monk, now.room[monk]) ? '1' : '0');
    }
    return bits.toString();
  }

  int firstWrong(int n) {
    if (!in(n, 1, 99)) {
      return -1;
    }
    House house = new House(now);
    for (int i = 1; i <= n; i++) {
      house.morning();
      if (house.wrong != now.wrong) {
        return i;
      }
    }
    return -2;
  }

  private int feastThinkers(int much, int one, int two) {
    House house = new House(now);
    house.wind[one] += much;
    house.wind[two] += much;
    house.morning();
    return (int) Arrays.stream(house.thought).filter(d -> book.days.get(d).feast()).count();
  }

  private List<Integer> rested(int much) {
    int stuffs = book.stuffs.size();
    int[][] has = new int[stuffs][stuffs];
    for (int one = 0; one < stuffs; one++) {
      for (int two = 0; two < stuffs; two++) {
        has[one][two] = feastThinkers(much, one, two);
      }
    }
    List<Integer> rests = new ArrayList<>();
    for (int one = 0; one < stuffs; one++) {
      for (int two = 0; two < stuffs; two++) {
        int most = 0;
        int least = Integer.MAX_VALUE;
        for (int i = 0; i < stuffs; i++) {
          most = Math.max(most, has[i][two]);
          least = Math.min(least, has[one][i]);
        }
        if (has[one][two] == most && has[one][two] == least) {
          rests.add(10 * one + two);
        }
      }
    }
    return rests;
  }

  int rests(int much) {
    return !in(much, 1, 99) || book.stuffs.isEmpty() || book.days.isEmpty() ? -1 : rested(much).size();
  }

  int rest(int much, int k) {
    if (rests(much) < 0 || k < 0) {
      return -1;
    }
    List<Integer> rests = rested(much);
    return k < rests.size() ? rests.get(k) : -2;
  }

  int note(int mornings, int monk, int day, boolean is) {
    if (!in(mornings, 1, 40) || !isMonk(monk) || !isDay(day) || notes.size() == 24) {
      return -1;
    }
    notes.add(new Note(mornings, monk, day, is, -1));
    return notes.size() - 1;
  }

  int out(int note) {
    if (!in(note, 0, notes.size() - 1) || notes.size() == 24) {
      return -1;
    }
    notes.add(new Note(0, 0, 0, false, note));
    return notes.size() - 1;
  }

  boolean known(int n) {
    if (!in(n, -1, notes.size())) {
      return false;
    }
    known = n;
    return true;
  }

  private boolean isStruck(int note, int by) {
    for (int i = note + 1; i < by; i++) {
      if (notes.get(i).strikes() == note && !isStruck(i, by)) {
        return true;
      }
    }
    return false;
  }

  int colds(int monk) {
    if (!isMonk(monk)) {
      return -1;
    }
    int by = known < 0 ? notes.size() : known;
    int bits = 0;
    for (int stuff = 0; stuff <= book.stuffs.size(); stuff++) {
      House house = new House(book);
      house.cold[monk] = stuff == book.stuffs.size() ? 0 : 1 << stuff;
      List<int[]> thoughts = new ArrayList<>();
      for (int i = 0; i < 40; i++) {
        house.morning();
        thoughts.add(house.thought.clone());
      }
      boolean fits = true;
      for (int i = 0; i < by; i++) {
        Note note = notes.get(i);
        if (note.strikes() < 0 && !isStruck(i, by)) {
          fits = fits && (thoughts.get(note.mornings() - 1)[note.monk()] == note.day()) == note.is();
        }
      }
      bits |= fits ? 1 << stuff : 0;
    }
    return bits;
  }

  int chance(int seed, int n, int often) {
    if (seed < 0 || !in(n, 1, 40) || !in(often, 0, 40) || book.stuffs.isEmpty()) {
      return -1;
    }
    BigInteger[] last = {BigInteger.valueOf(seed)};
    int times = 0;
    for (int i = 0; i < 10; i++) {
      House house = new House(now);
      for (int morning = 0; morning < n; morning++) {
        if (draw(last) % 4 == 0) {
          house.wind[draw(last) % book.stuffs.size()] = 9;
        }
        house.morning();
      }
      times += house.right - now.right >= often ? 1 : 0;
    }
    return times;
  }

  private static int draw(BigInteger[] last) {
    last[0] = last[0].multiply(BigInteger.valueOf(1103515245)).add(BigInteger.valueOf(12345)).mod(BigInteger.ONE.shiftLeft(31));
    return last[0].shiftRight(16).intValueExact();
  }

  int tried(int what, int i, int n) {
    if (!in(what, 0, 5) || !in(n, 0, 99) || (what == 3 ? !isMonk(i) : i != 0)) {
      return -1;
    }
    House house = new House(now);
    house.fresh = what == 1;
    house.endless = what == 4;
    house.open = what == 5;
    if (what == 2) {
      house.cold = new int[house.cold.length];
    }
    house.away = what == 3 ? i : -1;
    for (int k = 0; k < n; k++) {
      house.morning();
    }
    return house.right - now.right;
  }

  int undo() {
    if (undo.isEmpty()) {
      return -1;
    }
    now = undo.remove(undo.size() - 1);
    return undo.size();
  }

  int keep() {
    image = new House(now);
    return now.date;
  }

  int back() {
    if (image == null) {
      return -1;
    }
    now = new House(image);
    undo.clear();
    return now.date;
  }

  int count(int what) {
    return switch (what) {
      case 0 -> book.stuffs.size();
      case 1 -> book.days.size();
      case 2 -> book.rooms.size();
      case 3 -> book.monks.size();
      case 4 -> book.mixes.size();
      case 5 -> book.knots;
      case 6 -> now.date;
      case 7 -> now.kept;
      case 8 -> now.right;
      case 9 -> now.wrong;
      case 10 -> Arrays.stream(now.store).sum();
      case 11 -> notes.size();
      case 12 -> known < 0 ? notes.size() : known;
      case 13 -> undo.size();
      default -> -1;
    };
  }
}
