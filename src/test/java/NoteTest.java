/** Promises 30 to 35: notes, strikes, what is known, whose cold it was, mornings by chance, tried otherwise. */
public final class NoteTest {
  private static final Check check = new Check("NoteTest");
  private static final String COLD = "stuff s 99;stuff t 99;day a;day b;day c;mix a s 9;mix b t 9;mix c s 9;mix c t 9;"
      + "room r 100;monk m r 5;monk n r 5;";

  public static void main(String[] args) {
    notes();
    strikes();
    knownBy();
    colds();
    fromTheTextOn();
    chance();
    tried();
    check.end();
  }

  /** Promises 30 and 31. */
  private static void notes() {
    SmellAbbey x = Check.abbey(COLD);
    check.due("out(0) ahead of notes", x.out(0), -1);
    check.due("the first", x.note(1, 0, 0, true), 0);
    check.due("the second", x.note(40, 1, 2, false), 1);
    int[][] wrong = {{0, 0, 0}, {41, 0, 0}, {-1, 0, 0}, {1, -1, 0}, {1, 2, 0}, {1, 0, -1}, {1, 0, 3}};
    for (int[] w : wrong) {
      check.due("note of none such", x.note(w[0], w[1], w[2], true), -1);
    }
    check.due("out(2)", x.out(2), -1);
    check.due("out(-1)", x.out(-1), -1);
    check.due("a strike", x.out(1), 2);
    check.due("a strike of a strike", x.out(2), 3);
    for (int i = 4; i < 24; i++) {
      check.due("more", i % 2 == 0 ? x.note(1, 0, 0, true) : x.out(0), i);
    }
    check.due("there are 24", x.note(1, 0, 0, true), -1);
    check.due("there are 24", x.out(0), -1);
    check.due("24", x.count(11), 24);
  }

  private static void strikes() {
    SmellAbbey x = Check.abbey(COLD);
    x.note(1, 0, 1, true);
    int impossible = x.colds(0);
    x.out(0);
    int possible = x.colds(0);
    check.due("a note that can't be so with s or none", impossible, 0);
    check.due("struck", possible, 7);
    x.out(1);
    check.due("what strikes is struck", x.colds(0), 0);
    x.out(2);
    check.due("and that, too", x.colds(0), 7);
    x.out(0);
    check.due("struck twice", x.colds(0), 7);
    x.out(1);
    check.due("the second strike holds", x.colds(0), 7);
  }

  /** Promise 32. */
  private static void knownBy() {
    SmellAbbey x = Check.abbey(COLD);
    check.due("known(-1)", x.known(-1), true);
    check.due("known(0)", x.known(0), true);
    check.due("known(1)", x.known(1), false);
    check.due("known(-2)", x.known(-2), false);
    x.known(-1);
    x.note(1, 0, 1, true);
    x.out(0);
    check.due("all, also those to come", x.count(12), 2);
    check.due("known(1)", x.known(1), true);
    check.due("by one", x.count(12), 1);
    check.due("the strike is not known", x.colds(0), 0);
    x.note(1, 1, 1, true);
    check.due("still by one", x.count(12), 1);
    check.due("known(3)", x.known(3), true);
    check.due("known(4)", x.known(4), false);
    check.due("still by three", x.count(12), 3);
    check.due("the note of the other one can't be so", x.colds(0), 0);
    x.known(2);
    check.due("by two", x.colds(0), 7);
    x.known(0);
    check.due("by none", x.colds(0), 7);
    x.known(3);
    x.out(2);
    check.due("not by the fourth", x.colds(0), 0);
    x.known(-1);
    check.due("by all", x.colds(0), 7);
  }

  /** Promise 33. With a cold of s: a smells of nothing, c like b; with one of t: b of nothing, c like a. */
  private static void colds() {
    SmellAbbey x = Check.abbey(COLD);
    check.due("all may be", x.colds(0), 7);
    x.note(3, 0, 2, true);
    check.due("all think c at last", x.colds(0), 7);
    SmellAbbey y = Check.abbey(COLD.replace("monk n", "law air wind*0+much-(date=1)*9;monk n"));
    // the second morning has nothing in the air: none possible but with a cold of s (a) or of t (b)
    y.note(2, 0, 1, true);
    check.due("with a cold of s a would be possible", y.colds(0), 6);
    y.note(2, 0, 0, false);
    check.due("likewise", y.colds(0), 6);
    y.known(0);
    y.note(2, 0, 0, true);
    y.out(0);
    y.out(1);
    y.known(-1);
    check.due("it was s", y.colds(0), 1);
    check.due("it was not the other one's", y.colds(1), 0);
    y.note(2, 1, 1, true);
    check.due("still s", y.colds(0), 1);
    check.due("colds(2)", y.colds(2), -1);
    check.due("colds(-1)", y.colds(-1), -1);
    check.due("without stuffs", Check.abbey("day a;room r 1;monk m r 1;").colds(0), 1);
  }

  private static void fromTheTextOn() {
    SmellAbbey x = Check.abbey(COLD + "room q 0;");
    x.note(2, 0, 1, true);
    x.note(40, 0, 0, true);
    int before = x.colds(0);
    int beforeOther = x.colds(1);
    check.due("not with a cold of t", before, 5);
    check.due("so it is, whatever cold the other one has", beforeOther, 7);
    x.cold(0, 1, true);
    x.cold(1, 0, true);
    x.wind(1, 50);
    x.buy(0, 900);
    x.goes(0, 1);
    x.go(5);
    check.due("calls since the text do not count", x.colds(0), before);
    check.due("nor do they for the other one", x.colds(1), beforeOther);
  }

  /** Promise 34, against numbers worked out here. */
  private static void chance() {
    String text = "stuff s 999;stuff t 999;stuff u 1;day a;day b;day c;mix a s 9;mix b t 9;mix c s 9;mix c t 9;room r 100;monk m r 5;linger 60;";
    int seeds = 12;
    int between = 0;
    for (int seed = 0; seed < seeds; seed++) {
      for (int often = 0; often <= 8; often += 2) {
        SmellAbbey x = Check.abbey(text);
        x.go(1);
        x.wind(2, 3);
        int answer = x.chance(seed * 178956970, 8, often);
        check.due("chance", answer, byGoing(text, seed * 178956970, 8, often));
        between += answer > 0 && answer < 10 ? 1 : 0;
      }
    }
    check.due("some are neither 0 nor 10", between > 3, true);
    SmellAbbey one = Check.abbey("stuff s 999;day a;day b;mix b s 9;room r 100;monk m r 9;");
    int gusts = 0;
    for (int seed = 0; seed < 20; seed++) {
      gusts += 10 - one.chance(seed * 99999999, 1, 1);
    }
    check.due("winds of the one stuff there is", gusts > 20 && gusts < 80, true);
    SmellAbbey x = Check.abbey(text);
    check.due("the greatest seed", x.chance(2147483647, 1, 0), 10);
    check.due("40 of 40 mornings", x.chance(0, 40, 40) >= 0, true);
    int[][] wrong = {{-1, 1, 0}, {0, 0, 0}, {0, 41, 0}, {0, 1, -1}, {0, 1, 41}};
    for (int[] w : wrong) {
      check.due("chance of none such", x.chance(w[0], w[1], w[2]), -1);
    }
    check.due("no stuffs", Check.abbey("day a;").chance(1, 1, 0), -1);
    check.due("no days: never right", Check.abbey("stuff s 1;").chance(1, 1, 1), 0);
    check.due("no days: not at all, as often as that", Check.abbey("stuff s 1;").chance(1, 1, 0), 10);
  }

  private static int byGoing(String text, int seed, int n, int often) {
    SmellAbbey x = Check.abbey(text);
    x.go(1);
    x.keep();
    long last = seed;
    int times = 0;
    for (int i = 0; i < 10; i++) {
      x.back();
      x.wind(2, 3);
      int before = x.count(8);
      for (int morning = 0; morning < n; morning++) {
        last = (last * 1103515245L + 12345L) % 2147483648L;
        if (last / 65536 % 4 == 0) {
          last = (last * 1103515245L + 12345L) % 2147483648L;
          x.wind((int) (last / 65536 % 3), 9);
        }
        x.go(1);
      }
      if (x.count(8) - before >= often) {
        times++;
      }
    }
    return times;
  }

  /** Promise 35. */
  private static void tried() {
    String text = "stuff s 20;day a;day b;mix a s 9;room r 100;monk m r 5;";
    SmellAbbey x = Check.abbey(text);
    check.due("as it is: short at last, then by turns", x.tried(0, 0, 8), 6);
    SmellAbbey lingers = Check.abbey("stuff s 999;day a;day b;mix a s 9;room r 100;monk m r 5;linger 90;");
    check.due("b smells like a", lingers.tried(0, 0, 6), 3);
    check.due("nothing lingers", lingers.tried(1, 0, 6), 6);
    lingers.go(1);
    check.due("nor what is there now", lingers.tried(1, 0, 1), 1);
    SmellAbbey left = Check.abbey("stuff s 999;day a;day b;mix a s 9;room r 100;monk m r 5;law air much+left;");
    check.due("left", left.tried(0, 0, 6), 3);
    check.due("left is 0", left.tried(1, 0, 6), 6);
    SmellAbbey cold = Check.abbey("stuff s 999;day a;day b;mix b s 9;room r 100;room q 40;monk m r 5;monk n q 5;monk o r 5;");
    cold.wind(0, 9);
    cold.go(1);
    cold.cold(0, 0, true);
    check.due("thought b on a", cold.count(8), 0);
    check.due("as it is", cold.tried(0, 0, 4), byGoing(cold, -1, 4));
    check.due("nobody has a cold", cold.tried(2, 0, 4), byGoing(cold, 0, 4));
    check.due("all parts are 100", cold.tried(5, 0, 4), 4);
    triedWithoutColds();
    triedWithFullParts();
    SmellAbbey absent = Check.abbey("stuff s 999;day a;day b;mix a s 9;room r 100;room q 100;monk m q 5;monk n r 5;law air (place=0)*much+place*9;");
    check.due("m thinks a always, a is the first", absent.tried(0, 0, 4), 2);
    check.due("m isn't there", absent.tried(3, 0, 4), 4);
    check.due("n isn't there", absent.tried(3, 1, 4), 2);
    SmellAbbey stores = Check.abbey("stuff s 9;day a;day b;day c;mix a s 9;mix b s 9;room r 100;monk m r 5;");
    check.due("stores are endless", stores.tried(4, 0, 99), 99);
    check.due("not without that", stores.tried(0, 0, 99) < 99, true);
    check.due("none", x.tried(0, 0, 0), 0);
    int[][] wrong = {{-1, 0, 1}, {6, 0, 1}, {0, 1, 1}, {1, -1, 1}, {2, 1, 1}, {4, 1, 1}, {5, 1, 1}, {3, 1, 1}, {3, -1, 1}, {0, 0, -1}, {0, 0, 100}};
    for (int[] w : wrong) {
      check.due("tried(" + w[0] + ", " + w[1] + ", " + w[2] + ")", x.tried(w[0], w[1], w[2]), -1);
    }
    check.due("without days", Check.abbey("stuff s 1;").tried(0, 0, 9), 0);
    check.due("without monks", Check.abbey("day a;day b;").tried(0, 0, 9), 9);
  }

  private static void triedWithoutColds() {
    SmellAbbey x = Check.abbey("stuff s 999;day a;day b;day c;mix b s 9;room r 100;monk m r 5;monk n r 5;law air (date=0)*9+(date>0)*much;");
    x.go(1);
    check.due("b for a", x.count(7), 1);
    x.cold(0, 0, true);
    x.cold(1, 0, true);
    check.due("with colds they are one ahead", x.tried(0, 0, 6), 0);
    check.due("without, b is b: right from then on", x.tried(2, 0, 6), 6);
  }

  private static void triedWithFullParts() {
    SmellAbbey x = Check.abbey("stuff s 999;day a;day b;day c;mix b s 9;mix c s 99;room r 50;monk m r 9;law keen part-91+(part=50)*50;");
    x.wind(0, 9);
    x.go(1);
    check.due("c for a", x.count(7), 2);
    check.due("too little of b reaches him: a", x.tried(0, 0, 1), 0);
    check.due("if all did: b", x.tried(5, 0, 1), 1);
    check.due("c puts him right", x.tried(0, 0, 5), 4);
  }

  /** How often the house is right if one monk's cold is gone, by going and coming back. */
  private static int byGoing(SmellAbbey x, int monk, int n) {
    x.keep();
    int before = x.count(8);
    if (monk >= 0) {
      x.cold(monk, 0, false);
    }
    x.go(n);
    int right = x.count(8) - before;
    x.back();
    return right;
  }
}
