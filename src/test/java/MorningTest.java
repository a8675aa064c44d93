/** Promises 6 to 17: what is there now, laws, what calls change, and the mornings themselves. */
public final class MorningTest {
  private static final Check check = new Check("MorningTest");
  private static final String BASE = "stuff clove 20;stuff rose 9;day mon;day tue feast;day wed;mix mon clove 5;"
      + "mix tue rose 4;mix wed clove 5;mix wed rose 4;room choir 100;room crypt 50;monk al choir 4;monk bo crypt 3;";

  public static void main(String[] args) {
    monks();
    stuffs();
    mixes();
    marks();
    laws();
    bounds();
    colds();
    winds();
    buys();
    rooms();
    goesBy();
    storesRunOut();
    lingering();
    airByLaw();
    thinking();
    votes();
    withoutDays();
    withoutMonks();
    check.end();
  }

  /** Promise 6. */
  private static void monks() {
    SmellAbbey x = Check.abbey(BASE);
    int[][] now = {{0, 4, 0, 0, 2}, {1, 3, 0, 0, 2}};
    for (int monk = 0; monk < 2; monk++) {
      for (int what = 0; what < 5; what++) {
        check.due("monk(" + monk + ", " + what + ")", x.monk(monk, what), now[monk][what]);
      }
    }
    check.due("monk(2, 0)", Check.thrown(x, 2, 0), 1);
    check.due("monk(-1, 0)", Check.thrown(x, -1, 0), 1);
    check.due("monk(2, 9)", Check.thrown(x, 2, 9), 1);
    check.due("monk(0, 5)", Check.thrown(x, 0, 5), 2);
    check.due("monk(0, -1)", Check.thrown(x, 0, -1), 2);
    check.due("monk(0, 0) of a new one", Check.thrown(new SmellAbbey(), 0, 0), 1);
    check.due("thought without days", Check.abbey("room r 1;monk m r 1;").monk(0, 4), -1);
  }

  /** Promise 7. */
  private static void stuffs() {
    SmellAbbey x = Check.abbey(BASE + "law worth much+date;");
    check.due("stuff(0, 0)", x.stuff(0, 0), 20);
    check.due("stuff(1, 0)", x.stuff(1, 0), 9);
    check.due("stuff(1, 1)", x.stuff(1, 1), 9);
    x.go(1);
    check.due("worth by the store and the date of now", x.stuff(0, 1), 16);
    x.wind(1, 7);
    check.due("stuff(1, 2)", x.stuff(1, 2), 7);
    check.due("stuff(0, 2)", x.stuff(0, 2), 0);
    int[][] wrong = {{-1, 0}, {2, 0}, {0, -1}, {0, 3}, {2, 3}};
    for (int[] one : wrong) {
      check.due("stuff(" + one[0] + ", " + one[1] + ")", x.stuff(one[0], one[1]), -1);
    }
  }

  /** Promises 8, 9 and 10. */
  private static void mixes() {
    SmellAbbey x = Check.abbey(BASE);
    int[][] mix = {{5, 0, -1}, {0, 4, -1}, {5, 4, -1}, {-1, -1, -1}};
    for (int day = 0; day < 4; day++) {
      for (int stuff = 0; stuff < 3; stuff++) {
        check.due("mix(" + day + ", " + stuff + ")", x.mix(day, stuff), mix[day][stuff]);
      }
    }
    check.due("mix(-1, 0)", x.mix(-1, 0), -1);
    check.due("mix(0, -1)", x.mix(0, -1), -1);
    int[] feast = {0, 1, 0, -1};
    for (int day = 0; day < 4; day++) {
      check.due("feast(" + day + ")", x.feast(day), feast[day]);
    }
    check.due("feast(-1)", x.feast(-1), -1);
    x.go(3);
    int[][] air = {{5, 4, -1}, {2, 2, -1}, {-1, -1, -1}};
    for (int room = 0; room < 3; room++) {
      for (int stuff = 0; stuff < 3; stuff++) {
        check.due("air(" + room + ", " + stuff + ")", x.air(room, stuff), air[room][stuff]);
      }
    }
    check.due("air(-1, 0)", x.air(-1, 0), -1);
    check.due("air(0, -1)", x.air(0, -1), -1);
  }

  /** Promise 11. */
  private static void marks() {
    SmellAbbey x = Check.abbey(BASE + "law keen nose-date/2;");
    int[][] marks = {{1, 2, 3}, {0, 0, 0}};
    for (int monk = 0; monk < 2; monk++) {
      for (int day = 0; day < 3; day++) {
        check.due("mark(" + monk + ", " + day + ")", x.mark(monk, day), marks[monk][day]);
      }
    }
    x.go(2);
    check.due("keen at the date of now", x.mark(1, 0), 1);
    check.due("keen at the date of now", x.mark(1, 2), 3);
    x.cold(1, 0, true);
    check.due("a cold", x.mark(1, 2), 2);
    x.goes(1, 0);
    check.due("another room", x.mark(1, 1), 2);
    int[][] wrong = {{-1, 0}, {2, 0}, {0, -1}, {0, 3}};
    for (int[] one : wrong) {
      check.due("mark(" + one[0] + ", " + one[1] + ")", x.mark(one[0], one[1]), -1);
    }
  }

  /** Promise 12. */
  private static void laws() {
    String names = "much*1000*1000*1000+part*1000*1000+left*1000*100+wind*1000+date*100+place*10+nose";
    String telling = "law %s " + names + ";";
    SmellAbbey air = Check.abbey(BASE + String.format(telling, "air").replace("1000*100+", "10*1000*10+"));
    air.go(1);
    air.wind(1, 8);
    long left = air.air(1, 1);
    check.due("law(0, 1, 1)", air.law(0, 1, 1), 50000000L + left * 100000 + 8000 + 100 + 10);
    check.due("nothing is mixed", air.law(0, 0, 0), 100000000L + air.air(0, 0) * 100000L + 100);
    SmellAbbey keen = Check.abbey(BASE + String.format(telling, "keen"));
    keen.go(2);
    keen.wind(0, 8);
    check.due("law(1, 0, 77)", keen.law(1, 0, 77), 100000000L + 200 + 4);
    check.due("law(1, 1, -5)", keen.law(1, 1, -5), 50000000L + 200 + 10 + 3);
    SmellAbbey worth = Check.abbey(BASE + String.format(telling, "worth"));
    worth.go(1);
    worth.wind(0, 8);
    check.due("law(2, -3, 0)", worth.law(2, -3, 0), 15000000000L + 100);
    check.due("law(2, 9, 1)", worth.law(2, 9, 1), 9000000000L + 100);
    long none = Long.MIN_VALUE;
    long[] nones = {air.law(1, 0, 0), air.law(2, 0, 0), keen.law(0, 0, 0), air.law(0, 2, 0), air.law(0, -1, 0), air.law(0, 0, 2),
        air.law(0, 0, -1), keen.law(1, 2, 0), keen.law(1, -1, 0), worth.law(2, 0, 2), worth.law(2, 0, -1), air.law(3, 0, 0),
        air.law(-1, 0, 0), new SmellAbbey().law(0, 0, 0), Check.abbey(BASE + "law worth 1/date;").law(2, 0, 0)};
    for (int i = 0; i < nones.length; i++) {
      check.due("no law " + i, nones[i], none);
    }
  }

  /** What a law comes to is held within its bounds; without one, and with an error, there is another way. */
  private static void bounds() {
    int[] keens = {1, 1, 2, 99, 99, 4};
    String[] formulas = {"0-5", "0", "2", "99", "100", "1/0"};
    for (int i = 0; i < keens.length; i++) {
      SmellAbbey x = Check.abbey("stuff s 9;day d;room r 100;monk m r 4;law keen " + formulas[i] + ";law air wind;");
      x.wind(0, keens[i]);
      x.go(1);
      check.due("smelled by keen " + formulas[i], x.monk(0, 3), 1);
      x.wind(0, keens[i] - 1);
      x.go(1);
      check.due("not smelled by keen " + formulas[i], x.monk(0, 3), 0);
    }
    int[] worths = {0, 0, 999, 999, 1};
    String[] values = {"0-1", "0", "999", "1000", "1/0"};
    for (int i = 0; i < worths.length; i++) {
      check.due("worth " + values[i], Check.abbey("stuff s 9;law worth " + values[i] + ";").stuff(0, 1), worths[i]);
    }
    check.due("worth without a law", Check.abbey("stuff s 9;").stuff(0, 1), 1);
    int[] airs = {0, 0, 9999, 9999, 12};
    String[] winds = {"0-1", "0", "9999", "9999+1", "1/0"};
    for (int i = 0; i < airs.length; i++) {
      SmellAbbey x = Check.abbey("stuff s 9;day d;mix d s 5;room r 100;law air " + winds[i] + ";");
      x.wind(0, 7);
      x.go(1);
      check.due("air " + winds[i], x.air(0, 0), airs[i]);
    }
  }

  /** Promise 13. */
  private static void colds() {
    SmellAbbey x = Check.abbey(BASE);
    check.due("no cold to end", x.cold(0, 1, false), false);
    check.due("a cold", x.cold(0, 1, true), true);
    check.due("it is so", x.cold(0, 1, true), false);
    check.due("another cold", x.cold(0, 0, true), true);
    check.due("bits", x.monk(0, 2), 3);
    check.due("of the other monk", x.monk(1, 2), 0);
    check.due("no more", x.cold(0, 1, false), true);
    check.due("bits", x.monk(0, 2), 1);
    x.go(1);
    check.due("he does not smell it", x.monk(0, 3), 0);
    check.due("it stays", x.monk(0, 2), 1);
    int[][] wrong = {{-1, 0}, {2, 0}, {0, -1}, {0, 2}, {0, 32}};
    for (int[] one : wrong) {
      check.due("cold(" + one[0] + ", " + one[1] + ")", x.cold(one[0], one[1], true), false);
    }
  }

  /** Promise 14. */
  private static void winds() {
    SmellAbbey x = Check.abbey(BASE + "linger 10;");
    check.due("wind 0 is so", x.wind(0, 0), false);
    check.due("wind 99", x.wind(0, 99), true);
    check.due("wind 100", x.wind(0, 100), false);
    check.due("wind -1", x.wind(0, -1), false);
    check.due("wind(2, 1)", x.wind(2, 1), false);
    check.due("wind(-1, 1)", x.wind(-1, 1), false);
    x.go(2);
    check.due("for the next morning alone", x.stuff(0, 2), 0);
    check.due("it came and lingers", x.air(1, 0), 10);
    check.due("wind 1", x.wind(1, 1), true);
    check.due("wind 0", x.wind(1, 0), true);
    check.due("no wind", x.stuff(1, 2), 0);
  }

  /** Promise 15. */
  private static void buys() {
    SmellAbbey x = Check.abbey(BASE);
    check.due("buy 1", x.buy(0, 1), 21);
    check.due("buy 999", x.buy(0, 999), 1020);
    check.due("buy 0", x.buy(0, 0), -1);
    check.due("buy 1000", x.buy(0, 1000), -1);
    check.due("buy -1", x.buy(0, -1), -1);
    check.due("buy(2, 1)", x.buy(2, 1), -1);
    check.due("buy(-1, 1)", x.buy(-1, 1), -1);
    for (int i = 0; i < 8; i++) {
      x.buy(0, 999);
    }
    check.due("up to 9999", x.buy(0, 987), 9999);
    check.due("above 9999", x.buy(0, 1), -1);
    check.due("the store", x.stuff(0, 0), 9999);
    check.due("all stores", x.count(10), 10008);
  }

  /** Promise 16. */
  private static void rooms() {
    SmellAbbey x = Check.abbey(BASE);
    check.due("he is there", x.goes(0, 0), false);
    check.due("he goes", x.goes(0, 1), true);
    check.due("he went", x.monk(0, 0), 1);
    check.due("the other one", x.monk(1, 0), 1);
    int[][] wrong = {{-1, 0}, {2, 0}, {0, -1}, {0, 2}};
    for (int[] one : wrong) {
      check.due("goes(" + one[0] + ", " + one[1] + ")", x.goes(one[0], one[1]), false);
    }
    x.go(1);
    check.due("too little reaches him", x.monk(0, 3), 0);
  }

  /** Promise 17. */
  private static void goesBy() {
    SmellAbbey x = Check.abbey(BASE);
    check.due("go(0)", x.go(0), 0);
    check.due("go(100)", x.go(100), -1);
    check.due("go(-1)", x.go(-1), -1);
    check.due("none goes by", x.count(6), 0);
    for (int i = 1; i <= 101; i++) {
      check.due("go(99)", x.go(99), 99 * i);
    }
    check.due("beyond 9999", x.go(1), -1);
    check.due("nor any", x.count(6), 9999);
    check.due("go(0) at 9999", x.go(0), 9999);
    SmellAbbey y = Check.abbey(BASE);
    for (int i = 0; i < 100; i++) {
      y.go(99);
    }
    check.due("go(99) up to 9999", y.go(98) + y.go(1), 9998 + 9999);
  }

  private static void storesRunOut() {
    SmellAbbey x = Check.abbey("stuff s 12;day a;mix a s 5;room r 100;room q 30;");
    int[] stores = {7, 2, 0, 0};
    int[] airs = {5, 5, 2, 0};
    int[] thin = {1, 1, 0, 0};
    for (int i = 0; i < 4; i++) {
      x.go(1);
      check.due("store", x.stuff(0, 0), stores[i]);
      check.due("air", x.air(0, 0), airs[i]);
      check.due("air, cut", x.air(1, 0), thin[i]);
    }
  }

  private static void lingering() {
    SmellAbbey x = Check.abbey("stuff s 99;day a;day b;mix a s 33;room r 50;linger 30;");
    int[] airs = {16, 4, 17, 5, 17};
    for (int air : airs) {
      x.go(1);
      check.due("lingering", x.air(0, 0), air);
    }
    SmellAbbey none = Check.abbey("stuff s 99;day a;day b;mix a s 99;room r 100;");
    none.wind(0, 99);
    none.go(1);
    check.due("198", none.air(0, 0), 198);
    none.go(1);
    check.due("nothing lingers if not told", none.air(0, 0), 0);
    SmellAbbey all = Check.abbey("stuff s 99;day a;mix a s 9;room r 100;linger 100;");
    all.go(3);
    check.due("all of it lingers", all.air(0, 0), 27);
  }

  private static void airByLaw() {
    SmellAbbey x = Check.abbey("stuff s 9;stuff t 9;day a;mix a s 5;mix a t 3;room r 70;room q 40;"
        + "law air much*100+part+left*2+wind+date*1000+place*7+nose;");
    x.wind(1, 6);
    x.go(1);
    check.due("r s", x.air(0, 0), 570);
    check.due("r t", x.air(0, 1), 376);
    check.due("q s", x.air(1, 0), 547);
    check.due("q t", x.air(1, 1), 353);
    x.go(1);
    check.due("r s", x.air(0, 0), 400 + 70 + 1140 + 1000);
    check.due("q t", x.air(1, 1), 300 + 40 + 706 + 1000 + 7);
  }

  /** The first possible day behind what he thought, round about; the one behind if none is possible. */
  private static void thinking() {
    SmellAbbey x = Check.abbey("stuff s 99;stuff t 99;day a;day b;day c;day d;mix a s 5;mix b s 5;mix c t 5;mix d s 5;mix d t 5;"
        + "room r 100;monk m r 5;");
    int[] thoughts = {0, 1, 2, 3, 0};
    for (int thought : thoughts) {
      x.go(1);
      check.due("he thinks", x.monk(0, 4), thought);
    }
    x.wind(0, 0);
    x.wind(1, 5);
    x.go(1);
    check.due("b with some t is d", x.monk(0, 4), 3);
    check.due("he smelled both", x.monk(0, 3), 3);
    check.due("kept", x.count(7), 3);
    x.go(1);
    check.due("c, round about", x.monk(0, 4), 2);
    x.cold(0, 0, true);
    x.cold(0, 1, true);
    x.go(1);
    check.due("all possible: the one behind", x.monk(0, 4), 3);
    SmellAbbey none = Check.abbey("stuff s 99;day a;day b;day c;mix a s 5;mix b s 5;mix c s 5;room r 100;monk m r 5;law air 0;");
    int[] behind = {0, 1, 2, 0};
    for (int thought : behind) {
      none.go(1);
      check.due("none possible: the one behind", none.monk(0, 4), thought);
    }
    SmellAbbey same = Check.abbey("stuff s 99;day a;day b;mix b s 5;room r 100;monk m r 5;law air 5;");
    same.go(2);
    check.due("he may think the same day again", same.monk(0, 4), 1);
  }

  private static void votes() {
    SmellAbbey x = Check.abbey("stuff s 99;stuff t 99;day a;day b feast;mix a s 9;mix b t 9;room r 100;room q 0;"
        + "monk k r 5;monk l r 5;monk m q 5;");
    x.cold(0, 0, true);
    x.go(1);
    check.due("most think a", x.count(7), 0);
    check.due("right", x.count(8), 1);
    check.due("not wrong", x.count(9), 0);
    x.wind(0, 9);
    x.go(1);
    check.due("two and one", x.count(7), x.monk(0, 4) + x.monk(1, 4) + x.monk(2, 4) >= 2 ? 1 : 0);
    SmellAbbey tie = Check.abbey("stuff s 99;day a;day b feast;mix b s 9;room r 100;room q 100;monk k r 5;monk l q 5;law air place*9;");
    tie.go(1);
    check.due("one thinks a", tie.monk(0, 4), 0);
    check.due("one thinks b", tie.monk(1, 4), 1);
    check.due("of several the first", tie.count(7), 0);
    tie.go(1);
    check.due("the first again", tie.count(7), 0);
    check.due("right once", tie.count(8), 1);
    check.due("a feast not kept", tie.count(9), 1);
    SmellAbbey feast = Check.abbey("stuff s 99;day a;day b feast;day c;mix b s 9;room r 100;monk k r 5;law air 9;");
    feast.go(1);
    check.due("kept b", feast.count(7), 1);
    check.due("a feast kept wrongly", feast.count(9), 1);
    feast.go(1);
    check.due("right", feast.count(8), 1);
    feast.go(1);
    check.due("wrongly again", feast.count(9), 2);
    SmellAbbey both = Check.abbey("stuff s 99;day a feast;day b feast;mix b s 9;room r 100;monk k r 5;law air 9;");
    both.go(1);
    check.due("not right", both.count(8), 0);
    check.due("but a feast for a feast", both.count(9), 0);
  }

  private static void withoutDays() {
    SmellAbbey x = Check.abbey("stuff s 9;room r 100;monk m r 5;linger 50;");
    x.wind(0, 8);
    check.due("go(1)", x.go(1), 1);
    check.due("the wind comes", x.air(0, 0), 8);
    check.due("he smells it", x.monk(0, 3), 1);
    check.due("he does not think", x.monk(0, 4), -1);
    check.due("none kept", x.count(7), -1);
    check.due("not right", x.count(8), 0);
    check.due("nothing mixed", x.stuff(0, 0), 9);
    x.go(1);
    check.due("it lingers", x.air(0, 0), 4);
  }

  private static void withoutMonks() {
    SmellAbbey x = Check.abbey("day a;day b feast;");
    x.go(2);
    SmellAbbey one = Check.abbey("stuff s 9;day a;mix a s 9;room r 100;monk m r 5;law air 0;");
    one.go(3);
    check.due("one day", one.monk(0, 4), 0);
    check.due("is right always", one.count(8), 3);
    check.due("the day itself", x.count(7), 1);
    check.due("right", x.count(8), 2);
    check.due("no wrong feast", x.count(9), 0);
  }
}
