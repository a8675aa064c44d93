/** Promises 18 to 29 and what part 3 of the terms says of them: each sentence that names a boundary has a method of its own here. */
public final class EdgeAskTest {
  private static final Check check = new Check("EdgeAskTest");

  public static void main(String[] args) {
    asItGoes();
    mixedUpFromNoneToAll();
    pairsInTheirOrder();
    pairBeyondTheLast();
    mendingByTheLeast();
    mendingUpToNinetyNine();
    mendingByNone();
    mendingOfNoneSuch();
    placeToSmell();
    placeWithoutDays();
    lastsUpToTwoHundred();
    lastsNot();
    lastsTheFirstStuff();
    needsJustSo();
    needsBeyondTheRound();
    dearestOfSeveral();
    dearestWithoutDays();
    inPlaceAmounts();
    inPlaceOfNone();
    letterFromNewToOld();
    letterOfNone();
    letterWithoutPartAndColds();
    firstWrongOfHowMany();
    firstWrongWithoutAny();
    restsOfOneStuff();
    restsJustEnough();
    restsBesidesTheWind();
    restsWithout();
    restBeyondTheLast();
    asksChangeNothing();
    check.end();
  }

  /** As it goes: mornings to come without winds but those told for the next one. */
  private static void asItGoes() {
    SmellAbbey x = Check.abbey("stuff s 0;day a;day b feast;day c;mix b s 5;room r 100;monk m r 5;law air wind+(date=7)*5;");
    x.wind(0, 5);
    check.due("the wind is in the next one", x.firstWrong(1), 1);
    check.due("b c a c a c a b: the last three are right", x.tried(0, 0, 8), 3);
    x.wind(0, 0);
    check.due("without it a for a, then c for b", x.firstWrong(9), 2);
    check.due("a c a c a c a b: the first one, too", x.tried(0, 0, 8), 4);
  }

  private static String days(int n) {
    StringBuilder text = new StringBuilder();
    for (int i = 0; i < n; i++) {
      text.append("day ").append((char) ('a' + i)).append(';');
    }
    return text.toString();
  }

  /** Promise 18: pairs of days of one mark. */
  private static void mixedUpFromNoneToAll() {
    for (int n = 0; n <= 8; n++) {
      SmellAbbey x = Check.abbey(days(n) + "room r 100;monk m r 1;");
      check.due("all of " + n + " alike", x.mixedUp(0), n * (n - 1) / 2);
    }
    SmellAbbey x = Check.abbey("stuff s 1;stuff t 1;" + days(4) + "mix b s 5;mix c t 5;mix d s 5;mix d t 5;room r 100;monk m r 5;monk n r 6;");
    check.due("none alike", x.mixedUp(0), 0);
    check.due("a nose too weak: all alike", x.mixedUp(1), 6);
    x.cold(0, 0, true);
    check.due("with a cold of s two and two", x.mixedUp(0), 2);
    x.cold(0, 1, true);
    check.due("with both all alike", x.mixedUp(0), 6);
  }

  /** Promise 19: by the first day, then the second one, the lesser number first. */
  private static void pairsInTheirOrder() {
    SmellAbbey x = Check.abbey(days(8) + "room r 100;monk m r 1;");
    int k = 0;
    for (int first = 0; first < 8; first++) {
      for (int second = first + 1; second < 8; second++) {
        check.due("the " + k + "th", x.pair(0, k), 10 * first + second);
        k++;
      }
    }
    check.due("28 of them", k, 28);
    check.due("no more", x.pair(0, 28), -2);
  }

  /** Promise 19: -2: there are no so many; NONE: no such ones. */
  private static void pairBeyondTheLast() {
    SmellAbbey x = Check.abbey("stuff s 1;" + days(3) + "mix b s 5;room r 100;monk m r 5;monk n r 5;");
    check.due("the only one", x.pair(1, 0), 2);
    check.due("no second one", x.pair(1, 1), -2);
    check.due("nor so many", x.pair(1, Integer.MAX_VALUE), -2);
    check.due("below 0", x.pair(1, -1), -1);
    check.due("no such monk", x.pair(2, 0), -1);
    check.due("no such monk, though there are no so many", x.pair(2, 9), -1);
    check.due("of no days", Check.abbey("room r 1;monk m r 1;").pair(0, 0), -2);
    check.due("of one day", Check.abbey("day a;room r 1;monk m r 1;").pair(0, 0), -2);
  }

  /** Promise 20: the least more of some stuff in the later one by which their marks are unlike, of several the first stuff. */
  private static void mendingByTheLeast() {
    SmellAbbey x = Check.abbey("stuff s 1;stuff t 1;stuff u 1;" + days(2) + "mix b s 2;mix b t 4;mix b u 4;mix a s 4;room r 100;monk m r 5;");
    check.due("one of t, before one of u", x.mending(0, 0, 1, 0), 1);
    check.due("one", x.mending(0, 0, 1, 1), 1);
    check.due("the other way round the same", x.mending(0, 1, 0, 0), 1);
    check.due("the later one is b: not one of s", x.mending(0, 1, 0, 1), 1);
    x.cold(0, 1, true);
    check.due("with a cold of t: u", x.mending(0, 0, 1, 0), 2);
    x.cold(0, 2, true);
    check.due("and of u: s", x.mending(0, 0, 1, 0), 0);
    check.due("three of s", x.mending(0, 0, 1, 1), 3);
    SmellAbbey thin = Check.abbey("stuff s 1;" + days(2) + "mix b s 9;room r 30;monk m r 3;");
    check.due("2.7 are 2: one more is 3", thin.mending(0, 0, 1, 1), 1);
    SmellAbbey nearly = Check.abbey("stuff s 1;" + days(2) + "mix b s 98;room r 100;monk m r 99;");
    check.due("from 98 to 99", nearly.mending(0, 0, 1, 1), 1);
    SmellAbbey cut = Check.abbey("stuff s 1;stuff t 1;" + days(2) + "mix a s 99;mix b s 99;room r 99;monk m r 99;");
    check.due("98.01 is less than 99: one more is 99", cut.mending(0, 0, 1, 1), 1);
    check.due("of s", cut.mending(0, 0, 1, 0), 0);
  }

  /** Promise 20: how much more, 99 at most. */
  private static void mendingUpToNinetyNine() {
    SmellAbbey x = Check.abbey("stuff s 1;" + days(2) + "room r 100;room q 50;room p 49;monk m r 99;monk n q 49;monk o q 50;monk k p 49;");
    check.due("99", x.mending(0, 0, 1, 1), 99);
    check.due("98 for 49", x.mending(1, 0, 1, 1), 98);
    check.due("100 for 50", x.mending(2, 0, 1, 1), -2);
    check.due("100 for 49 of 49", x.mending(3, 0, 1, 1), -2);
    SmellAbbey y = Check.abbey("stuff s 1;" + days(2) + "mix b s 1;room q 50;room p 49;monk o q 50;monk k p 49;");
    check.due("99 more than 1", y.mending(0, 0, 1, 1), 99);
    check.due("likewise of 49", y.mending(1, 0, 1, 1), 99);
    check.due("of s", y.mending(1, 0, 1, 0), 0);
  }

  /** Promise 20: -2: by none; -3: they are told apart. */
  private static void mendingByNone() {
    for (int what = 0; what < 2; what++) {
      check.due("no stuffs", Check.abbey(days(2) + "room r 100;monk m r 1;").mending(0, 0, 1, what), -2);
      SmellAbbey x = Check.abbey("stuff s 1;" + days(3) + "mix a s 5;mix b s 5;room r 100;room q 0;monk m r 5;");
      check.due("smelled in both", x.mending(0, 0, 1, what), -2);
      check.due("told apart", x.mending(0, 0, 2, what), -3);
      check.due("told apart the other way round", x.mending(0, 2, 0, what), -3);
      x.cold(0, 0, true);
      check.due("with a cold no more, but by none", x.mending(0, 0, 2, what), -2);
      x.cold(0, 0, false);
      x.goes(0, 1);
      check.due("where nothing reaches", x.mending(0, 0, 2, what), -2);
    }
  }

  /** Promise 20: NONE: no such ones, alike days. */
  private static void mendingOfNoneSuch() {
    SmellAbbey x = Check.abbey("stuff s 1;" + days(2) + "mix a s 5;room r 100;monk m r 5;");
    check.due("told apart", x.mending(0, 0, 1, 0), -3);
    int[][] none = {{1, 0, 1, 0}, {0, 2, 1, 0}, {0, 0, 2, 0}, {0, 0, 1, 2}, {0, 0, 1, -1}, {0, 0, 0, 0}, {0, 1, 1, 1}, {0, 0, 0, 5}, {0, 2, 2, 0}};
    for (int[] one : none) {
      check.due("mending of " + one[0] + one[1] + one[2] + one[3], x.mending(one[0], one[1], one[2], one[3]), -1);
    }
  }

  /** Promise 21: the room in which a monk would have the most unlike marks, the first of several. */
  private static void placeToSmell() {
    String rooms = "room a 0;room b 50;room c 100;room d 100;room e 99;room f 1;";
    SmellAbbey x = Check.abbey("stuff s 1;stuff t 1;" + days(4) + "mix a s 10;mix b t 5;mix c s 10;mix c t 5;" + rooms + "monk m a 5;monk n f 1;monk o d 99;");
    check.due("5 of 5: c", x.placeTo(0, 0), 2);
    check.due("four marks", x.placeTo(0, 1), 4);
    check.due("a half is enough for 1", x.placeTo(1, 0), 1);
    check.due("four marks", x.placeTo(1, 1), 4);
    check.due("nothing is enough for 99: the first", x.placeTo(2, 0), 0);
    check.due("one mark", x.placeTo(2, 1), 1);
    x.cold(0, 1, true);
    check.due("with a cold of t b is enough", x.placeTo(0, 0), 1);
    check.due("two marks", x.placeTo(0, 1), 2);
    SmellAbbey last = Check.abbey("stuff s 1;" + days(2) + "mix a s 5;room a 0;room b 0;room c 0;room d 0;room e 0;room f 100;monk m a 5;");
    check.due("the last room", last.placeTo(0, 0), 5);
    check.due("two marks there", last.placeTo(0, 1), 2);
    SmellAbbey all = Check.abbey("stuff s 1;stuff t 1;stuff u 1;" + days(8) + "mix b s 1;mix c t 1;mix d s 1;mix d t 1;mix e u 1;mix f s 1;mix f u 1;"
        + "mix g t 1;mix g u 1;mix h s 1;mix h t 1;mix h u 1;room r 100;monk m r 1;");
    check.due("all eight", all.placeTo(0, 1), 8);
  }

  private static void placeWithoutDays() {
    SmellAbbey x = Check.abbey("stuff s 1;room q 0;room r 100;monk m r 1;");
    check.due("the first room", x.placeTo(0, 0), 0);
    check.due("no marks", x.placeTo(0, 1), 0);
    check.due("no such what", x.placeTo(0, 2), -1);
    check.due("no such monk", x.placeTo(1, 0), -1);
    check.due("one day has one mark", Check.abbey("day a;room r 1;monk m r 1;").placeTo(0, 1), 1);
  }

  /** Promise 22: how many mornings to come, 200 at most. */
  private static void lastsUpToTwoHundred() {
    int[] stores = {198, 199, 200, 201};
    for (int store : stores) {
      SmellAbbey x = Check.abbey("stuff s " + store + ";day a;mix a s 1;");
      check.due("a store of " + store, x.lasts(0), Math.min(200, store));
      check.due("short then", x.lasts(1), store < 200 ? 0 : -2);
    }
    SmellAbbey round = Check.abbey("stuff s 99;" + days(2) + "mix b s 1;");
    check.due("99 every other morning", round.lasts(0), 199);
    round.go(1);
    check.due("a morning later", round.lasts(0), 198);
    round.buy(0, 1);
    check.due("with one more", round.lasts(0), 200);
    check.due("none short", round.lasts(1), -2);
    check.due("without days", Check.abbey("stuff s 0;").lasts(0), 200);
    check.due("without days none short", Check.abbey("stuff s 0;").lasts(1), -2);
    check.due("nothing mixed", Check.abbey("stuff s 0;day a;").lasts(0), 200);
  }

  /** Promise 22: ahead of the first one in which a mix is cut short: none if it is the next one. */
  private static void lastsNot() {
    SmellAbbey x = Check.abbey("stuff s 8;" + days(2) + "mix a s 9;");
    check.due("short at once", x.lasts(0), 0);
    check.due("of s", x.lasts(1), 0);
    x.buy(0, 1);
    check.due("just enough for once", x.lasts(0), 2);
    x.go(1);
    check.due("an empty store lasts while nothing is mixed", x.lasts(0), 1);
    check.due("lasts(2)", x.lasts(2), -1);
    check.due("lasts(-1)", x.lasts(-1), -1);
  }

  /** Promise 22: the first stuff that is short then. */
  private static void lastsTheFirstStuff() {
    SmellAbbey x = Check.abbey("stuff s 9;stuff t 5;stuff u 5;day a;mix a u 3;mix a t 3;mix a s 3;");
    check.due("t and u, the first is t", x.lasts(1), 1);
    check.due("once", x.lasts(0), 1);
    x.buy(1, 9);
    check.due("then u", x.lasts(1), 2);
    x.buy(2, 9);
    check.due("then s", x.lasts(1), 0);
    check.due("three times", x.lasts(0), 3);
  }

  /** Promise 23: how much more must be in store for them; n 0 .. 99. */
  private static void needsJustSo() {
    SmellAbbey x = Check.abbey("stuff s 18;stuff t 0;day a;mix a s 9;");
    int[] needs = {0, 0, 0, 9, 18};
    for (int n = 0; n < needs.length; n++) {
      check.due("for " + n, x.needs(0, n), needs[n]);
    }
    check.due("for 99", x.needs(0, 99), 891 - 18);
    check.due("for 100", x.needs(0, 100), -1);
    check.due("for -1", x.needs(0, -1), -1);
    check.due("what isn't mixed", x.needs(1, 99), 0);
    check.due("no such stuff", x.needs(2, 1), -1);
    x.buy(0, 1);
    check.due("one less", x.needs(0, 3), 8);
    check.due("the most", Check.abbey("stuff s 0;day a;mix a s 99;").needs(0, 99), 9801);
    check.due("without days", Check.abbey("stuff s 0;").needs(0, 99), 0);
  }

  private static void needsBeyondTheRound() {
    SmellAbbey x = Check.abbey("stuff s 0;" + days(3) + "mix a s 1;mix b s 10;");
    int[] needs = {0, 1, 11, 11, 12, 22, 22};
    for (int n = 0; n < needs.length; n++) {
      check.due("for " + n, x.needs(0, n), needs[n]);
    }
    x.go(1);
    int[] later = {0, 10, 10, 11, 21};
    for (int n = 0; n < later.length; n++) {
      check.due("from b on for " + n, x.needs(0, n), later[n]);
    }
  }

  /** Promise 24: the day whose mixes cost most, the first of several. */
  private static void dearestOfSeveral() {
    SmellAbbey x = Check.abbey("stuff s 0;stuff t 5;" + days(4) + "mix b s 3;mix b t 4;mix c t 7;mix d s 7;");
    check.due("7 three times: the first", x.dearest(0), 1);
    check.due("7", x.dearest(1), 7);
    SmellAbbey none = Check.abbey("stuff s 0;" + days(3) + "mix c s 9;law worth 0;");
    check.due("all cost nothing: the first", none.dearest(0), 0);
    check.due("0", none.dearest(1), 0);
    SmellAbbey last = Check.abbey("stuff s 0;" + days(8) + "mix h s 1;");
    check.due("the last day", last.dearest(0), 7);
    SmellAbbey most = Check.abbey("stuff a 1;stuff b 1;stuff c 1;stuff d 1;stuff e 1;stuff f 1;day z;mix z a 99;mix z b 99;mix z c 99;mix z d 99;"
        + "mix z e 99;mix z f 99;law worth 1000;");
    check.due("the most it may cost", most.dearest(1), 6 * 99 * 999);
    SmellAbbey told = Check.abbey("stuff s 0;day a;mix a s 9;");
    check.due("as much as is told, not as is there", told.dearest(1), 9);
  }

  /** Promise 24: NONE for another what, without days. */
  private static void dearestWithoutDays() {
    check.due("without days", Check.abbey("stuff s 1;").dearest(0), -1);
    check.due("without days", Check.abbey("stuff s 1;").dearest(1), -1);
    SmellAbbey x = Check.abbey("day a;");
    check.due("one day without mixes", x.dearest(0), 0);
    check.due("costs nothing", x.dearest(1), 0);
    check.due("dearest(2)", x.dearest(2), -1);
    check.due("dearest(-1)", x.dearest(-1), -1);
  }

  /** Promise 25: a stuff everywhere mixed as another one, which isn't mixed then but for that. */
  private static void inPlaceAmounts() {
    SmellAbbey x = Check.abbey("stuff s 1;stuff t 1;" + days(2) + "mix a s 5;mix b t 9;room r 100;monk m r 5;monk n r 6;monk o r 9;monk k r 9;monk l r 4;");
    check.due("s as t: 5 of t on a, none on b: for noses 5 and 4", x.inPlace(0, 1), 2);
    check.due("t as s: none on a, 9 of s on b: for all", x.inPlace(1, 0), 5);
    x.cold(4, 0, true);
    check.due("but one with a cold of s", x.inPlace(1, 0), 4);
    check.due("who has none of t", x.inPlace(0, 1), 2);
  }

  /** Promise 25: NONE: no such ones, alike stuffs. */
  private static void inPlaceOfNone() {
    SmellAbbey x = Check.abbey("stuff s 1;stuff t 1;" + days(2) + "mix a s 5;room r 100;monk m r 5;");
    check.due("s as t", x.inPlace(0, 1), 1);
    check.due("t as s: nothing is mixed", x.inPlace(1, 0), 0);
    int[][] none = {{0, 0}, {1, 1}, {0, 2}, {2, 0}, {2, 2}, {-1, 0}, {0, -1}};
    for (int[] one : none) {
      check.due("inPlace(" + one[0] + ", " + one[1] + ")", x.inPlace(one[0], one[1]), -1);
    }
    check.due("no monks", Check.abbey("stuff s 1;stuff t 1;day a;").inPlace(0, 1), 0);
    check.due("one day has no pair", Check.abbey("stuff s 1;stuff t 1;day a;room r 1;monk m r 1;").inPlace(0, 1), 1);
  }

  /** Promise 26: of which 100 less 10 n of a hundred of the mix, cut, are keen at least; n 0 .. 10. */
  private static void letterFromNewToOld() {
    SmellAbbey x = Check.abbey("stuff s 1;" + days(2) + "mix b s 99;room r 0;monk a r 99;monk b r 89;monk c r 90;monk d r 9;monk e r 1;");
    check.due("new, by 99", x.letter(1, 0, 0), 1);
    check.due("1 old, 89.1 by 99", x.letter(1, 0, 1), 0);
    check.due("1 old, 89.1 by 89", x.letter(1, 1, 1), 1);
    check.due("1 old, 89.1 by 90", x.letter(1, 2, 1), 0);
    check.due("2 old by 89", x.letter(1, 1, 2), 0);
    check.due("9 old, 9.9 by 9", x.letter(1, 3, 9), 1);
    check.due("10 old, nothing by 1", x.letter(1, 4, 10), 0);
    check.due("9 old by 1", x.letter(1, 4, 9), 1);
    check.due("11 old", x.letter(1, 4, 11), -1);
    check.due("-1 old", x.letter(1, 4, -1), -1);
  }

  /** Promise 26: the first day of the same mark; -2: none. */
  private static void letterOfNone() {
    SmellAbbey x = Check.abbey("stuff s 1;stuff t 1;" + days(3) + "mix a s 5;mix a t 5;mix b t 5;mix c s 9;mix c t 9;room r 100;monk m r 5;");
    check.due("new", x.letter(2, 0, 0), 0);
    check.due("9 of 10 are still 8", x.letter(2, 0, 1), 0);
    check.due("5 old are 4: none smells of nothing", x.letter(2, 0, 5), -2);
    check.due("of a, 1 old", x.letter(0, 0, 1), -2);
    check.due("all is gone", x.letter(1, 0, 10), -2);
    check.due("a fourth day", x.letter(3, 0, 0), -1);
    check.due("a second monk", x.letter(0, 1, 0), -1);
    check.due("neither, though it would be none", x.letter(3, 0, 10), -1);
  }

  /** Promise 26: no colds; the mark without part and colds. */
  private static void letterWithoutPartAndColds() {
    SmellAbbey x = Check.abbey("stuff s 1;stuff t 1;" + days(3) + "mix b s 9;mix c t 9;room r 0;monk m r 9;");
    for (int day = 0; day < 3; day++) {
      check.due("where nothing reaches", x.letter(day, 0, 0), day);
    }
    x.cold(0, 0, true);
    x.cold(0, 1, true);
    for (int day = 0; day < 3; day++) {
      check.due("with colds of both", x.letter(day, 0, 0), day);
    }
  }

  /** Promise 27: in how many mornings, n at most (1: the next one); n 1 .. 99. */
  private static void firstWrongOfHowMany() {
    int[] dates = {1, 5, 97, 99};
    for (int date : dates) {
      SmellAbbey x = Check.abbey("stuff s 0;day a;day b feast;mix b s 5;room r 100;monk m r 5;law air (date-date/2*2)*5*(date<>" + date + ");");
      check.due("date " + date + " is b without a smell: a", x.firstWrong(99), date < 99 ? date + 1 : -2);
      check.due("not ahead of it", x.firstWrong(date), -2);
      check.due("just by then", x.firstWrong(Math.min(99, date + 1)), date < 99 ? date + 1 : -2);
      x.go(date);
      check.due("the next one", x.firstWrong(1), 1);
      x.go(1);
      check.due("it was", x.count(9), 1);
    }
    SmellAbbey x = Check.abbey("day a;");
    check.due("firstWrong(0)", x.firstWrong(0), -1);
    check.due("firstWrong(100)", x.firstWrong(100), -1);
  }

  /** Promise 27: -2: none. */
  private static void firstWrongWithoutAny() {
    check.due("without days", Check.abbey("stuff s 1;room r 1;monk m r 1;").firstWrong(99), -2);
    check.due("without monks", Check.abbey("day a;day b feast;").firstWrong(99), -2);
    check.due("without feasts", Check.abbey("stuff s 0;day a;day b;mix b s 5;room r 100;monk m r 5;law air 5;").firstWrong(99), -2);
    check.due("all feasts", Check.abbey("stuff s 0;day a feast;day b feast;mix b s 5;room r 100;monk m r 5;law air 5;").firstWrong(99), -2);
    check.due("one day", Check.abbey("day a feast;room r 1;monk m r 1;").firstWrong(99), -2);
  }

  /** Promise 28: with one stuff there is one rest. */
  private static void restsOfOneStuff() {
    SmellAbbey x = Check.abbey("stuff s 0;day a;day b feast;mix b s 5;room r 100;monk m r 5;");
    int[] much = {1, 2, 3, 5, 99};
    for (int one : much) {
      check.due("much " + one, x.rests(one), 1);
      check.due("s by both", x.rest(one, 0), 0);
      check.due("no second", x.rest(one, 1), -2);
    }
  }

  /** Promise 28: each burns so much: keen at least by one, or by two of the same stuff. */
  private static void restsJustEnough() {
    SmellAbbey x = Check.abbey("stuff s 0;stuff t 0;day a;day b feast;mix b s 6;room r 100;monk m r 6;");
    // the first one wants b: s in the air alone; the other one wants a
    check.due("2 and 2 are not 6: all rest", x.rests(2), 4);
    check.due("3 and 3 are: s s is a feast, the others not; the second one goes off to t", x.rests(3), 2);
    check.due("s t", x.rest(3, 0), 1);
    check.due("t t", x.rest(3, 1), 11);
    check.due("no third", x.rest(3, 2), -2);
    // t is in no mark, so with 6 of s and 6 of t no day is possible: a, the one behind
    check.due("6 of s and 6 of t are none possible", x.rests(6), 2);
    check.due("99 likewise", x.rests(99), 2);
    check.due("100", x.rests(100), -1);
    check.due("0", x.rests(0), -1);
  }

  /** Sextons burn besides, as wind, in the next morning alone. */
  private static void restsBesidesTheWind() {
    SmellAbbey x = Check.abbey("stuff s 0;stuff t 0;day a;day b feast;mix b s 9;room r 100;monk m r 9;");
    check.due("4 and 4 are not 9", x.rests(4), 4);
    x.wind(0, 1);
    check.due("but with a wind of 1 they are", x.rests(4), 2);
    x.wind(0, 5);
    // all but t t are feasts: the first one rests at s, whatever the other one does; at t s the second one goes off to t
    check.due("4 besides a wind of 5", x.rests(4), 2);
    check.due("s s", x.rest(4, 0), 0);
    check.due("s t", x.rest(4, 1), 1);
    check.due("the wind stays", x.stuff(0, 2), 5);
    check.due("nothing burnt", x.air(0, 0), 0);
  }

  /** Promise 28: NONE: no such number, no stuffs, no days. */
  private static void restsWithout() {
    check.due("no stuffs", Check.abbey("day a;room r 1;monk m r 1;").rests(1), -1);
    check.due("no days", Check.abbey("stuff s 1;room r 1;monk m r 1;").rests(1), -1);
    check.due("no stuffs, the 0th", Check.abbey("day a;room r 1;monk m r 1;").rest(1, 0), -1);
    check.due("no days, the 0th", Check.abbey("stuff s 1;room r 1;monk m r 1;").rest(1, 0), -1);
    check.due("no monks: all are alike", Check.abbey("stuff s 1;stuff t 1;stuff u 1;day a feast;").rests(1), 9);
    check.due("no rooms either", Check.abbey("stuff s 1;day a;").rests(99), 1);
  }

  /** Promise 29: -2: there are no so many; NONE likewise, k is below 0. */
  private static void restBeyondTheLast() {
    SmellAbbey x = Check.abbey("stuff a 1;stuff b 1;stuff c 1;stuff d 1;stuff e 1;stuff f 1;day z;");
    check.due("all of six and six", x.rests(9), 36);
    for (int k = 0; k < 36; k++) {
      check.due("the " + k + "th", x.rest(9, k), k / 6 * 10 + k % 6);
    }
    check.due("no more", x.rest(9, 36), -2);
    check.due("nor so many", x.rest(9, Integer.MAX_VALUE), -2);
    check.due("below 0", x.rest(9, -1), -1);
    check.due("no such much", x.rest(0, 0), -1);
    check.due("no such much, though there are no so many", x.rest(100, 99), -1);
  }

  /** None of these calls changes anything. */
  private static void asksChangeNothing() {
    SmellAbbey x = asked();
    String seen = Look.at(x);
    for (int i = 0; i < 3; i++) {
      x.mixedUp(i);
      x.pair(0, i);
      x.mending(0, 0, i, 0);
      x.placeTo(i, 1);
      x.lasts(i);
      x.needs(i, 50);
      x.dearest(i);
      x.inPlace(0, i);
      x.letter(i, 0, i);
      x.firstWrong(1 + 49 * i);
      x.rests(1 + 49 * i);
      x.rest(9, i);
      x.chance(i, 20, 5);
    }
    check.due("all stays", Look.at(x), seen);
    for (int what = 0; what < 6; what++) {
      x.tried(what, 0, 99);
      check.due("tried(" + what + ") leaves all", Look.at(x), seen);
    }
    check.due("to the last", Look.last(x), Look.last(asked()));
  }

  private static SmellAbbey asked() {
    SmellAbbey x = Check.abbey("stuff s 70;stuff t 9;day a;day b feast;mix a s 9;mix b t 9;room r 100;room q 60;monk m r 5;monk n q 5;linger 40;");
    x.go(1);
    x.keep();
    x.go(2);
    x.wind(1, 6);
    x.cold(1, 0, true);
    x.note(2, 0, 1, true);
    return x;
  }
}
