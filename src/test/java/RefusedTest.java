/**
 * Every argument of every call, one by one, all others being fine: at both ends of its range the call is taken; one beyond them and as far
 * beyond as an int goes it is refused with the answer that the document names, and all stays as it was.
 */
public final class RefusedTest {
  private static final Check check = new Check("RefusedTest");
  private static final String HOUSE = "stuff clove 20;stuff rose 9;day mon;day tue feast;day wed;mix mon clove 5;mix tue rose 4;mix wed clove 5;"
      + "mix wed rose 4;room choir 100;room crypt 50;monk al choir 4;monk bo crypt 3;linger 50;law air much*part/100+left/2+wind;"
      + "law keen nose+date/9;law worth much+1;";
  private static final long ERROR = Long.MIN_VALUE;
  private static final long NO_MONK = -1001;
  private static final long NO_WHAT = -1002;

  /** A call with one argument left open. */
  private interface Call {
    long on(SmellAbbey x, int open);
  }

  public static void main(String[] args) {
    text();
    looks();
    changes();
    asks();
    foretold();
    notes();
    chances();
    check.end();
  }

  /** A house in the midst of it all: mornings, an image, things to undo, notes, a wind, a cold, bytes on the tape. */
  private static SmellAbbey house() {
    SmellAbbey x = Check.abbey(HOUSE);
    x.go(2);
    x.keep();
    x.cold(1, 1, true);
    x.wind(1, 7);
    x.note(1, 0, 0, true);
    x.note(3, 1, 2, false);
    x.out(0);
    x.known(2);
    x.feed(0x64617920, 0x613b6461, 0x7920623b, 0x20202020, 0x20202020);
    return x;
  }

  private static void edge(String name, int least, int most, long refusal, Call call) {
    int[] values = {least - 1, most + 1, Integer.MIN_VALUE, Integer.MAX_VALUE, Integer.MIN_VALUE + 1, Integer.MAX_VALUE - 1, -1, 1 << 30, 65536};
    SmellAbbey x = house();
    for (int value : values) {
      if (value < least || value > most) {
        check.due(name.replace("_", String.valueOf(value)), call.on(x, value), refusal);
      }
    }
    check.due(name + " refused: all stays", Look.last(x), Look.last(house()));
    check.due(name.replace("_", String.valueOf(least)) + " is taken", call.on(house(), least) != refusal, true);
    check.due(name.replace("_", String.valueOf(most)) + " is taken", call.on(house(), most) != refusal, true);
  }

  private static long monk(SmellAbbey x, int monk, int what) {
    int thrown = Check.thrown(x, monk, what);
    return thrown == 0 ? x.monk(monk, what) : -1000 - thrown;
  }

  private static long bit(boolean is) {
    return is ? 1 : 0;
  }

  /** Promises 3, 4, 5 and 39; there are twenty bytes on the tape. */
  private static void text() {
    edge("text(_)", 0, 20, -2, (x, n) -> {
      int lines = x.text(n);
      return lines == -2 ? -2 : 0;
    });
    SmellAbbey faulty = new SmellAbbey();
    Check.tell(faulty, "day a;@");
    edge("fault(_)", 0, 1, -1, (x, what) -> what == 0 || what == 1 ? faulty.fault(what) : x.fault(what));
    edge("named(_, ..)", 0, 3, -1, (x, what) -> x.named(what, Check.letters(what == 1 ? "tue" : what == 2 ? "crypt" : what == 3 ? "bo" : "rose")));
    edge("count(_)", 0, 13, -1, (x, what) -> x.count(what));
  }

  /** Promises 6 to 12. */
  private static void looks() {
    edge("monk(_, 0)", 0, 1, NO_MONK, (x, monk) -> monk(x, monk, 0));
    edge("monk(_, 5)", 0, 1, NO_MONK, (x, monk) -> monk(x, monk, 5));
    edge("monk(1, _)", 0, 4, NO_WHAT, (x, what) -> monk(x, 1, what));
    edge("stuff(_, 0)", 0, 1, -1, (x, stuff) -> x.stuff(stuff, 0));
    edge("stuff(1, _)", 0, 2, -1, (x, what) -> x.stuff(1, what));
    edge("mix(_, 0)", 0, 2, -1, (x, day) -> x.mix(day, 0));
    edge("mix(0, _)", 0, 1, -1, (x, stuff) -> x.mix(0, stuff));
    edge("feast(_)", 0, 2, -1, (x, day) -> x.feast(day));
    edge("air(_, 0)", 0, 1, -1, (x, room) -> x.air(room, 0));
    edge("air(0, _)", 0, 1, -1, (x, stuff) -> x.air(0, stuff));
    edge("mark(_, 0)", 0, 1, -1, (x, monk) -> x.mark(monk, 0));
    edge("mark(0, _)", 0, 2, -1, (x, day) -> x.mark(0, day));
    edge("law(_, 0, 0)", 0, 2, ERROR, (x, what) -> x.law(what, 0, 0));
    edge("law(0, _, 0)", 0, 1, ERROR, (x, room) -> x.law(0, room, 0));
    edge("law(0, 0, _)", 0, 1, ERROR, (x, stuff) -> x.law(0, 0, stuff));
    edge("law(1, _, 0)", 0, 1, ERROR, (x, monk) -> x.law(1, monk, 0));
    edge("law(1, 0, _): isn't looked at", Integer.MIN_VALUE, Integer.MAX_VALUE, ERROR, (x, stuff) -> x.law(1, 0, stuff));
    edge("law(2, 0, _)", 0, 1, ERROR, (x, stuff) -> x.law(2, 0, stuff));
    edge("law(2, _, 0): isn't looked at", Integer.MIN_VALUE, Integer.MAX_VALUE, ERROR, (x, one) -> x.law(2, one, 0));
  }

  /** Promises 13 to 17. */
  private static void changes() {
    edge("cold(_, 0, true)", 0, 1, 0, (x, monk) -> bit(x.cold(monk, 0, true)));
    edge("cold(0, _, true)", 0, 1, 0, (x, stuff) -> bit(x.cold(0, stuff, true)));
    edge("cold(1, _, false)", 1, 1, 0, (x, stuff) -> bit(x.cold(1, stuff, false)));
    edge("wind(_, 9)", 0, 1, 0, (x, stuff) -> bit(x.wind(stuff, 9)));
    edge("wind(1, _)", 0, 99, 0, (x, much) -> bit(x.wind(1, much)));
    edge("buy(_, 1)", 0, 1, -1, (x, stuff) -> x.buy(stuff, 1));
    edge("buy(0, _)", 1, 999, -1, (x, much) -> x.buy(0, much));
    edge("goes(_, 0 or 1)", 0, 1, 0, (x, monk) -> bit(x.goes(monk, monk == 0 ? 1 : 0)));
    edge("goes(0, _)", 1, 1, 0, (x, room) -> bit(x.goes(0, room)));
    edge("goes(1, _)", 0, 0, 0, (x, room) -> bit(x.goes(1, room)));
    edge("go(_)", 0, 99, -1, (x, n) -> x.go(n));
  }

  /** Promises 18 to 26. */
  private static void asks() {
    edge("mixedUp(_)", 0, 1, -1, (x, monk) -> x.mixedUp(monk));
    edge("pair(_, 0)", 0, 1, -1, (x, monk) -> x.pair(monk, 0));
    edge("pair(0, _)", 0, Integer.MAX_VALUE, -1, (x, k) -> x.pair(0, k));
    edge("mending(_, 0, 2, 0)", 0, 1, -1, (x, monk) -> x.mending(monk, 0, 2, 0));
    edge("mending(0, _, 2, 0)", 0, 1, -1, (x, one) -> x.mending(0, one, 2, 0));
    edge("mending(0, 0, _, 0)", 1, 2, -1, (x, other) -> x.mending(0, 0, other, 0));
    edge("mending(0, 0, 2, _)", 0, 1, -1, (x, what) -> x.mending(0, 0, 2, what));
    edge("placeTo(_, 0)", 0, 1, -1, (x, monk) -> x.placeTo(monk, 0));
    edge("placeTo(0, _)", 0, 1, -1, (x, what) -> x.placeTo(0, what));
    edge("lasts(_)", 0, 1, -1, (x, what) -> x.lasts(what));
    edge("needs(_, 1)", 0, 1, -1, (x, stuff) -> x.needs(stuff, 1));
    edge("needs(0, _)", 0, 99, -1, (x, n) -> x.needs(0, n));
    edge("dearest(_)", 0, 1, -1, (x, what) -> x.dearest(what));
    edge("inPlace(_, 1)", 0, 0, -1, (x, stuff) -> x.inPlace(stuff, 1));
    edge("inPlace(1, _)", 0, 0, -1, (x, other) -> x.inPlace(1, other));
    edge("letter(_, 0, 0)", 0, 2, -1, (x, day) -> x.letter(day, 0, 0));
    edge("letter(0, _, 0)", 0, 1, -1, (x, monk) -> x.letter(0, monk, 0));
    edge("letter(0, 0, _)", 0, 10, -1, (x, n) -> x.letter(0, 0, n));
  }

  /** Promises 27 to 29. */
  private static void foretold() {
    edge("firstWrong(_)", 1, 99, -1, (x, n) -> x.firstWrong(n));
    edge("rests(_)", 1, 99, -1, (x, much) -> x.rests(much));
    edge("rest(_, 0)", 1, 99, -1, (x, much) -> x.rest(much, 0));
    edge("rest(1, _)", 0, Integer.MAX_VALUE, -1, (x, k) -> x.rest(1, k));
  }

  /** Promises 30 to 33; there are three notes. */
  private static void notes() {
    edge("note(_, 0, 0, true)", 1, 40, -1, (x, mornings) -> x.note(mornings, 0, 0, true));
    edge("note(1, _, 0, true)", 0, 1, -1, (x, monk) -> x.note(1, monk, 0, true));
    edge("note(1, 0, _, false)", 0, 2, -1, (x, day) -> x.note(1, 0, day, false));
    edge("out(_)", 0, 2, -1, (x, note) -> x.out(note));
    edge("known(_)", -1, 3, 0, (x, n) -> bit(x.known(n)));
    edge("colds(_)", 0, 1, -1, (x, monk) -> x.colds(monk));
  }

  /** Promises 34 and 35. */
  private static void chances() {
    edge("chance(_, 1, 0)", 0, Integer.MAX_VALUE, -1, (x, seed) -> x.chance(seed, 1, 0));
    edge("chance(0, _, 0)", 1, 40, -1, (x, n) -> x.chance(0, n, 0));
    edge("chance(0, 1, _)", 0, 40, -1, (x, often) -> x.chance(0, 1, often));
    edge("tried(_, 0, 1)", 0, 5, -1, (x, what) -> x.tried(what, 0, 1));
    for (int what = 0; what <= 5; what++) {
      int fixed = what;
      edge("tried(" + what + ", _, 1)", 0, what == 3 ? 1 : 0, -1, (x, i) -> x.tried(fixed, i, 1));
      edge("tried(" + what + ", 0, _)", 0, 99, -1, (x, n) -> x.tried(fixed, 0, n));
    }
  }
}
