/** Promises 18 to 29: days mixed up and mended, places, stores, costs, letters, wrong feasts, sextons. */
public final class AskTest {
  private static final Check check = new Check("AskTest");
  private static final String BASE = "stuff clove 20;stuff rose 9;day mon;day tue feast;day wed;mix mon clove 5;"
      + "mix tue rose 4;mix wed clove 5;mix wed rose 4;room choir 100;room crypt 50;monk al choir 4;monk bo crypt 3;";

  public static void main(String[] args) {
    pairs();
    mending();
    places();
    lasting();
    needing();
    dearest();
    inPlace();
    letters();
    firstWrong();
    sextons();
    asksChangeNothing();
    fullHouse();
    check.end();
  }

  /** Promises 18 and 19. */
  private static void pairs() {
    SmellAbbey x = Check.abbey("stuff s 9;day a;day b;day c;day d;mix a s 5;mix c s 5;room r 100;room q 0;monk m r 5;monk n q 5;law keen nose+date;");
    check.due("pair(0, 0), asked first", x.pair(0, 0), 2);
    check.due("a c and b d", x.mixedUp(0), 2);
    check.due("pair(1, 0), asked behind the other one's", x.pair(1, 0), 1);
    check.due("pair(0, 0)", x.pair(0, 0), 2);
    check.due("pair(0, 1)", x.pair(0, 1), 13);
    check.due("pair(0, 2)", x.pair(0, 2), -2);
    check.due("all of them", x.mixedUp(1), 6);
    int[] all = {1, 2, 3, 12, 13, 23, -2};
    for (int k = 0; k < all.length; k++) {
      check.due("pair(1, " + k + ")", x.pair(1, k), all[k]);
    }
    check.due("pair(1, a million)", x.pair(1, 1000000), -2);
    check.due("pair(0, -1)", x.pair(0, -1), -1);
    check.due("pair(2, 0)", x.pair(2, 0), -1);
    check.due("pair(-1, 0)", x.pair(-1, 0), -1);
    check.due("mixedUp(2)", x.mixedUp(2), -1);
    check.due("mixedUp(-1)", x.mixedUp(-1), -1);
    x.go(1);
    check.due("keen at the date of now", x.mixedUp(0), 6);
    SmellAbbey none = Check.abbey("room r 1;monk m r 1;");
    check.due("without days", none.mixedUp(0), 0);
    check.due("without days", none.pair(0, 0), -2);
  }

  /** Promise 20. */
  private static void mending() {
    SmellAbbey x = Check.abbey(BASE + "day thu;stuff myrrh 5;mix mon myrrh 3;room away 0;");
    check.due("in the later one", x.mending(1, 1, 0, 0), 1);
    check.due("by two more", x.mending(1, 1, 0, 1), 2);
    check.due("of several the first", x.mending(1, 0, 3, 0), 0);
    check.due("six more", x.mending(1, 3, 0, 1), 6);
    check.due("told apart", x.mending(0, 0, 1, 1), -3);
    check.due("told apart", x.mending(0, 0, 1, 0), -3);
    x.cold(1, 0, true);
    check.due("not by what he does not smell", x.mending(1, 0, 2, 0), 1);
    check.due("but by two of the next", x.mending(1, 0, 2, 1), 2);
    x.goes(1, 2);
    check.due("by none", x.mending(1, 0, 2, 0), -2);
    check.due("by none", x.mending(1, 0, 2, 1), -2);
    int[][] wrong = {{-1, 0, 1, 0}, {2, 0, 1, 0}, {0, -1, 1, 0}, {0, 4, 1, 0}, {0, 0, -1, 0}, {0, 0, 4, 0}, {0, 0, 0, 0}, {0, 0, 1, 2},
        {0, 0, 1, -1}};
    for (int[] w : wrong) {
      check.due("mending of none such", x.mending(w[0], w[1], w[2], w[3]), -1);
    }
    SmellAbbey smelled = Check.abbey("stuff s 1;stuff t 1;day a;day b;mix a s 9;mix b s 9;room r 100;monk m r 5;");
    check.due("what is smelled already does not mend", smelled.mending(0, 0, 1, 0), 1);
    check.due("five of the other", smelled.mending(0, 0, 1, 1), 5);
    SmellAbbey just = Check.abbey("stuff s 1;stuff t 1;day a;day b;mix a s 5;mix b s 5;mix b t 4;room r 100;monk m r 5;");
    check.due("nor what is just smelled", just.mending(0, 0, 1, 0), 1);
    check.due("one more", just.mending(0, 0, 1, 1), 1);
    check.due("a hundred more", Check.abbey("stuff s 1;day a;day b;room r 99;monk m r 99;").mending(0, 0, 1, 1), -2);
    SmellAbbey far = Check.abbey("stuff s 1;day a;day b;mix b s 1;room r 99;room q 98;monk m r 99;monk n q 99;");
    check.due("99 at most", far.mending(0, 0, 1, 1), 99);
    check.due("more than 99", far.mending(1, 0, 1, 1), -2);
    check.due("without stuffs", Check.abbey("day a;day b;room r 1;monk m r 1;").mending(0, 0, 1, 0), -2);
  }

  /** Promise 21. */
  private static void places() {
    SmellAbbey x = Check.abbey("stuff s 9;stuff t 9;day a;day b;day c;mix a s 5;mix b t 9;mix c s 5;mix c t 9;"
        + "room q 50;room r 100;room p 100;room o 0;monk m q 5;monk n p 9;");
    check.due("the first room of the most", x.placeTo(0, 0), 1);
    check.due("three marks", x.placeTo(0, 1), 3);
    check.due("not so keen", x.placeTo(1, 0), 1);
    check.due("two marks", x.placeTo(1, 1), 2);
    x.cold(1, 1, true);
    check.due("with a cold all are alike", x.placeTo(1, 0), 0);
    check.due("one mark", x.placeTo(1, 1), 1);
    int[][] wrong = {{-1, 0}, {2, 0}, {0, -1}, {0, 2}};
    for (int[] w : wrong) {
      check.due("placeTo(" + w[0] + ", " + w[1] + ")", x.placeTo(w[0], w[1]), -1);
    }
    SmellAbbey law = Check.abbey("stuff s 9;day a;day b;mix a s 9;room r 50;room q 50;monk m r 1;law keen 9-place*8+(part<50)*90;");
    check.due("keen of that room", law.placeTo(0, 0), 1);
    check.due("keen of that room", law.placeTo(0, 1), 2);
    SmellAbbey none = Check.abbey("room r 1;room q 2;monk m q 1;");
    check.due("without days", none.placeTo(0, 0), 0);
    check.due("no marks", none.placeTo(0, 1), 0);
  }

  /** Promise 22. */
  private static void lasting() {
    SmellAbbey x = Check.abbey(BASE);
    check.due("lasts(0)", x.lasts(0), 4);
    check.due("lasts(1)", x.lasts(1), 1);
    check.due("lasts(2)", x.lasts(2), -1);
    check.due("lasts(-1)", x.lasts(-1), -1);
    x.go(1);
    check.due("from now on", x.lasts(0), 3);
    x.buy(1, 90);
    check.due("the other one is short", x.lasts(1), 0);
    check.due("seven mornings", x.lasts(0), 5);
    SmellAbbey both = Check.abbey("stuff s 2;stuff t 1;day a;mix a s 3;mix a t 3;");
    check.due("at once", both.lasts(0), 0);
    check.due("the first stuff", both.lasts(1), 0);
    SmellAbbey exact = Check.abbey("stuff s 200;day a;mix a s 1;");
    check.due("200 mornings", exact.lasts(0), 200);
    check.due("none short", exact.lasts(1), -2);
    exact.go(1);
    check.due("199 mornings", exact.lasts(0), 199);
    check.due("then s", exact.lasts(1), 0);
    exact.buy(0, 999);
    check.due("200 at most", exact.lasts(0), 200);
    check.due("none by then", exact.lasts(1), -2);
  }

  /** Promise 23. */
  private static void needing() {
    SmellAbbey x = Check.abbey(BASE);
    int[] rose = {0, 0, 0, 0, 0, 3, 7, 7, 11};
    for (int n = 0; n < rose.length; n++) {
      check.due("needs(1, " + n + ")", x.needs(1, n), rose[n]);
    }
    check.due("needs(0, 99)", x.needs(0, 99), 66 * 5 - 20);
    x.go(1);
    check.due("from now on", x.needs(1, 1), 0);
    check.due("from now on", x.needs(1, 4), 3);
    int[][] wrong = {{-1, 1}, {2, 1}, {0, -1}, {0, 100}};
    for (int[] w : wrong) {
      check.due("needs(" + w[0] + ", " + w[1] + ")", x.needs(w[0], w[1]), -1);
    }
    check.due("without days", Check.abbey("stuff s 0;").needs(0, 99), 0);
  }

  /** Promise 24. */
  private static void dearest() {
    SmellAbbey x = Check.abbey(BASE + "law worth 10-much/3;");
    check.due("worth of rose 7, of clove 4", x.dearest(0), 2);
    check.due("48", x.dearest(1), 48);
    check.due("dearest(2)", x.dearest(2), -1);
    check.due("dearest(-1)", x.dearest(-1), -1);
    SmellAbbey same = Check.abbey("stuff s 1;day a;day b;day c;mix b s 3;mix c s 3;");
    check.due("the first of several", same.dearest(0), 1);
    check.due("told, though the store is less", same.dearest(1), 3);
    SmellAbbey one = Check.abbey("stuff s 1;day a;mix a s 3;law worth 5;");
    check.due("one day", one.dearest(0), 0);
    check.due("one day costs", one.dearest(1), 15);
    SmellAbbey free = Check.abbey("day a;day b;");
    check.due("nothing costs", free.dearest(0), 0);
    check.due("nothing", free.dearest(1), 0);
    check.due("without days", new SmellAbbey().dearest(1), -1);
  }

  /** Promise 25: inPlace(a, b): what is mixed of a is mixed of b, and b only so. */
  private static void inPlace() {
    SmellAbbey x = Check.abbey("stuff s 9;stuff t 9;stuff u 9;day a;day b;mix a s 9;mix a t 9;mix b t 9;room r 100;monk m r 5;monk n r 5;monk o r 9;");
    check.due("s as t tells", x.inPlace(0, 1), 3);
    check.due("t as s does not", x.inPlace(1, 0), 0);
    check.due("s as u", x.inPlace(0, 2), 3);
    check.due("u as s", x.inPlace(2, 0), 0);
    x.cold(1, 1, true);
    check.due("one has a cold of t", x.inPlace(0, 1), 2);
    check.due("the cold of t is none of u", x.inPlace(1, 2), 3);
    int[][] wrong = {{-1, 0}, {3, 0}, {0, -1}, {0, 3}, {1, 1}};
    for (int[] w : wrong) {
      check.due("inPlace(" + w[0] + ", " + w[1] + ")", x.inPlace(w[0], w[1]), -1);
    }
    SmellAbbey gone = Check.abbey("stuff s 9;stuff t 9;day a;day b;mix a s 1;room r 100;monk m r 1;");
    check.due("one is enough", gone.inPlace(0, 1), 1);
    SmellAbbey both = Check.abbey("stuff s 9;stuff t 9;day a;day b;mix a s 1;mix a t 1;mix b s 1;room r 100;monk m r 1;");
    check.due("s is mixed no more, t only so", both.inPlace(0, 1), 0);
    check.due("but t as s tells", both.inPlace(1, 0), 1);
    check.due("without monks", Check.abbey("stuff s 1;stuff t 1;").inPlace(0, 1), 0);
    check.due("without days", Check.abbey("stuff s 1;stuff t 1;room r 1;monk m r 1;").inPlace(0, 1), 1);
  }

  /** Promise 26. */
  private static void letters() {
    SmellAbbey x = Check.abbey("stuff s 9;stuff t 9;day a;day b;day c;mix b s 50;mix c s 60;mix c t 10;room r 1;monk m r 9;monk n r 30;");
    check.due("as new", x.letter(2, 0, 0), 2);
    check.due("90 of a hundred", x.letter(2, 0, 1), 2);
    check.due("80: t is gone", x.letter(2, 0, 2), 1);
    check.due("20: s is still there", x.letter(2, 0, 8), 1);
    check.due("10: all is gone", x.letter(2, 0, 9), 0);
    check.due("0", x.letter(1, 0, 10), 0);
    check.due("the first of one mark", x.letter(2, 1, 0), 1);
    x.cold(0, 0, true);
    check.due("no colds", x.letter(2, 0, 2), 1);
    SmellAbbey cut = Check.abbey("stuff s 9;day a;day b;mix a s 99;mix b s 98;room r 1;monk m r 99;");
    check.due("98 is not 99", cut.letter(1, 0, 0), 1);
    check.due("99 is", cut.letter(0, 0, 0), 0);
    check.due("nor is 90 of a hundred", cut.letter(0, 0, 1), 1);
    SmellAbbey all = Check.abbey("stuff s 9;day a;mix a s 9;room r 0;monk m r 9;law keen nose-date;");
    check.due("none is such", all.letter(0, 0, 1), -2);
    all.go(1);
    check.due("keen at the date of now", all.letter(0, 0, 1), 0);
    int[][] wrong = {{-1, 0, 0}, {3, 0, 0}, {0, -1, 0}, {0, 2, 0}, {0, 0, -1}, {0, 0, 11}};
    for (int[] w : wrong) {
      check.due("letter of none such", x.letter(w[0], w[1], w[2]), -1);
    }
  }

  /** Promise 27. */
  private static void firstWrong() {
    String text = "stuff s 99;day a;day b feast;day c;mix b s 9;room r 100;monk m r 5;";
    SmellAbbey x = Check.abbey(text);
    check.due("none before s runs out", x.firstWrong(34), -2);
    check.due("s runs out", x.firstWrong(99), 35);
    x.wind(0, 5);
    check.due("the next one", x.firstWrong(1), 1);
    check.due("firstWrong(0)", x.firstWrong(0), -1);
    check.due("firstWrong(100)", x.firstWrong(100), -1);
    SmellAbbey out = Check.abbey(text.replace("99", "20"));
    check.due("s runs short at the third b", out.firstWrong(99), 8);
    check.due("seven are not enough", out.firstWrong(7), -2);
    check.due("eight are", out.firstWrong(8), 8);
    out.go(7);
    check.due("the next one", out.firstWrong(1), 1);
    out.go(1);
    check.due("counted", out.count(9), 1);
    check.due("those that were do not count", out.firstWrong(1), -2);
    check.due("without days", new SmellAbbey().firstWrong(99), -2);
  }

  /** Promises 28 and 29. */
  private static void sextons() {
    String text = "stuff s 99;stuff t 99;stuff u 0;day a;day b feast;day c feast;mix a s 5;mix b t 5;mix c s 5;mix c t 5;room r 100;monk m r 5;";
    SmellAbbey x = Check.abbey(text);
    // a, with: s s: a; s t: c, a feast; s u: none, the one behind, a; t t: c; t u: none: a; u u: none, a
    int[][] feasts = {{0, 1, 0}, {1, 1, 0}, {0, 0, 0}};
    int[] rests = new int[9];
    int many = 0;
    for (int one = 0; one < 3; one++) {
      for (int two = 0; two < 3; two++) {
        boolean rest = true;
        for (int other = 0; other < 3; other++) {
          rest = rest && feasts[other][two] <= feasts[one][two] && feasts[one][other] >= feasts[one][two];
        }
        if (rest) {
          rests[many++] = 10 * one + two;
        }
      }
    }
    check.due("rest(5, 0), asked first", x.rest(5, 0), rests[0]);
    check.due("rests(5)", x.rests(5), many);
    check.due("there are some", many > 0, true);
    for (int k = 0; k < many; k++) {
      check.due("rest(5, " + k + ")", x.rest(5, k), rests[k]);
    }
    check.due("no so many", x.rest(5, many), -2);
    check.due("rest(5, -1)", x.rest(5, -1), -1);
    int[] wrong = {0, -1, 100};
    for (int much : wrong) {
      check.due("rests(" + much + ")", x.rests(much), -1);
      check.due("rest(" + much + ", 0)", x.rest(much, 0), -1);
    }
    check.due("little does nothing: all are", x.rests(2), 9);
    check.due("the last", x.rest(2, 8), 22);
    check.due("2 + 2 of one stuff are 4", x.rest(2, 1), 1);
    check.due("3 and 3 of t make a feast: all but those with others", x.rests(3), 6);
    x.wind(2, 4);
    check.due("besides the wind", x.rests(1), 9);
    sextonsGain();
    SmellAbbey firstDay = Check.abbey("stuff s 0;stuff t 0;day a feast;day b;mix a s 5;mix b t 5;room r 100;monk m r 5;");
    // s s is a, a feast; t t is b; s t is none: a, behind the last one
    check.due("the first day is the feast", firstDay.rests(5), 2);
    check.due("s by both", firstDay.rest(5, 0), 0);
    check.due("s by one, t by the other one", firstDay.rest(5, 1), 1);
    check.due("one stuff", Check.abbey("day a;stuff s 1;").rests(99), 1);
    check.due("one day that is a feast", Check.abbey("day a feast;stuff s 1;stuff t 1;room r 1;monk m r 1;").rests(1), 4);
    check.due("no stuffs", Check.abbey("day a;").rests(1), -1);
    check.due("no days", Check.abbey("stuff s 1;").rests(1), -1);
    check.due("no days", Check.abbey("stuff s 1;").rest(1, 0), -1);
    check.due("without monks", Check.abbey("day a;stuff s 1;stuff t 1;").rests(99), 4);
  }

  /** The wind that is there makes the difference, and each can only change his own stuff. */
  private static void sextonsGain() {
    String text = "stuff s 0;stuff t 0;stuff u 0;day a;day b feast;day c feast;mix b t 5;mix c u 5;room r 100;monk m r 5;";
    SmellAbbey x = Check.abbey(text);
    // nothing is in the air but what is burnt: t t is b, u u is c, feasts; all others are a by being none
    int[][] feasts = {{0, 0, 0}, {0, 1, 0}, {0, 0, 1}};
    check.due("four at most of each: only together", x.rests(4), rested(feasts));
    x.wind(1, 2);
    // with 2 of t: t with any is b unless u comes to 5; 3 of t do
    int[][] more = {{0, 1, 0}, {1, 1, 1}, {0, 1, 0}};
    check.due("with the wind", x.rests(3), rested(new int[][] {{0, 1, 0}, {1, 1, 1}, {0, 1, 0}}));
    check.due("t as both", x.rest(3, 0), first(more));
  }

  /** As many of each as there may be, so that nothing reaches beyond its rows. */
  private static void fullHouse() {
    StringBuilder text = new StringBuilder("linger 30;");
    String names = "abcdefgh";
    for (int i = 0; i < 8; i++) {
      text.append("day ").append(names.charAt(i)).append(i % 3 == 0 ? " feast;" : ";");
    }
    for (int i = 0; i < 6; i++) {
      text.append("stuff ").append(names.charAt(i)).append(" 999;room ").append(names.charAt(i)).append(' ').append(100 - i).append(';');
    }
    for (int i = 0; i < 5; i++) {
      text.append("monk ").append(names.charAt(i)).append(' ').append(names.charAt(i)).append(" 20;");
    }
    for (int i = 0; i < 24; i++) {
      text.append("mix ").append(names.charAt(i / 3)).append(' ').append(names.charAt((i + i / 6) % 6)).append(" 30;");
    }
    SmellAbbey x = Check.abbey(text.toString());
    for (int i = 0; i < 24; i++) {
      x.note(1 + i, i % 5, i % 8, false);
    }
    x.wind(5, 9);
    long sum = 0;
    for (int round = 0; round < 3; round++) {
      sum += x.lasts(0) + x.lasts(1) + x.dearest(0) + x.dearest(1) + x.inPlace(0, 5) + x.firstWrong(99) + x.rests(20) + x.rest(20, 35);
      for (int monk = 0; monk < 5; monk++) {
        sum += x.mixedUp(monk) + x.pair(monk, 28) + x.mending(monk, 0, 7, 0) + x.placeTo(monk, 0) + x.letter(7, monk, 3) + x.colds(monk);
      }
      for (int what = 0; what < 6; what++) {
        sum += x.tried(what, 0, 99);
      }
      sum += x.chance(round, 40, 20) + x.needs(5, 99) + x.count(10) + x.go(40);
    }
    check.due("all of that can be asked", sum != 0, true);
    check.due("24 mixes", x.count(4), 24);
    check.due("go", x.count(6), 120);
  }

  private static int rested(int[][] has) {
    int many = 0;
    for (int one = 0; one < has.length; one++) {
      for (int two = 0; two < has.length; two++) {
        many += isRest(has, one, two) ? 1 : 0;
      }
    }
    return many;
  }

  private static int first(int[][] has) {
    for (int one = 0; one < has.length; one++) {
      for (int two = 0; two < has.length; two++) {
        if (isRest(has, one, two)) {
          return 10 * one + two;
        }
      }
    }
    return -2;
  }

  private static boolean isRest(int[][] has, int one, int two) {
    boolean rest = true;
    for (int other = 0; other < has.length; other++) {
      rest = rest && has[other][two] <= has[one][two] && has[one][other] >= has[one][two];
    }
    return rest;
  }

  private static void asksChangeNothing() {
    SmellAbbey x = Check.abbey(BASE + "linger 40;law air much+left/2+wind;");
    SmellAbbey y = Check.abbey(BASE + "linger 40;law air much+left/2+wind;");
    for (int i = 0; i < 12; i++) {
      x.wind(0, i);
      y.wind(0, i);
      x.lasts(0);
      x.firstWrong(30);
      x.rests(9);
      x.rest(9, 0);
      x.colds(0);
      x.chance(i, 9, 3);
      x.tried(i % 6, 0, 20);
      x.go(1);
      y.go(1);
      for (int what = 0; what <= 13; what++) {
        check.due("count(" + what + ")", x.count(what), y.count(what));
      }
      for (int what = 0; what < 5; what++) {
        check.due("monk", x.monk(0, what) + 100 * x.monk(1, what), y.monk(0, what) + 100 * y.monk(1, what));
      }
      check.due("air", x.air(0, 0) + 1000 * x.air(1, 1), y.air(0, 0) + 1000 * y.air(1, 1));
    }
  }
}
