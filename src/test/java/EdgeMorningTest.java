/** Promises 6 to 17 and part 2 of the terms: each sentence that names a boundary has a method of its own here. */
public final class EdgeMorningTest {
  private static final Check check = new Check("EdgeMorningTest");
  private static final long ERROR = Long.MIN_VALUE;

  public static void main(String[] args) {
    daysGoRound();
    withoutDays();
    storesAsFarAsTheyGo();
    airCut();
    airByLawWithinBounds();
    airWithoutBoundsOfALaw();
    windsForOneMorning();
    smellsKeenAtLeast();
    keenWithinBounds();
    markCut();
    thinksRoundAbout();
    nonePossible();
    votes();
    withoutMonks();
    wrongFeasts();
    valuesUpToTheirBounds();
    divisions();
    bothSidesAreWorkedOut();
    namesThatAreNought();
    monksThatThereAreNot();
    monkAheadOfTheFirstMorning();
    worthWithinBounds();
    whatIsNot();
    markAtTheDateOfNow();
    lawsAsTheyAre();
    coldThatIsSo();
    windThatIsSo();
    buyUpToTheBound();
    goesWhereHeIs();
    goUpToTheLastDate();
    fullHouse();
    check.end();
  }

  /** Its day is date modulo how many there are. */
  private static void daysGoRound() {
    for (int days = 1; days <= 8; days++) {
      StringBuilder text = new StringBuilder();
      for (int i = 0; i < days; i++) {
        text.append("day ").append((char) ('a' + i)).append(';');
      }
      SmellAbbey x = Check.abbey(text.toString());
      for (int date = 0; date < 17; date++) {
        x.go(1);
        check.due("the day of date " + date + " of " + days, x.count(7), date % days);
      }
      x.go(99);
      check.due("of date 115", x.count(7), 115 % days);
    }
  }

  /** Without days nothing is mixed, nobody thinks. */
  private static void withoutDays() {
    SmellAbbey x = Check.abbey("stuff s 9;room r 100;monk m r 1;linger 100;law worth date;");
    check.due("he thought no day", x.monk(0, 4), -1);
    check.due("go", x.go(99), 99);
    check.due("the store", x.stuff(0, 0), 9);
    check.due("the air", x.air(0, 0), 0);
    check.due("he thinks none", x.monk(0, 4), -1);
    check.due("none is kept", x.count(7), -1);
    check.due("it is not right", x.count(8), 0);
    check.due("nor wrong", x.count(9), 0);
    check.due("the date goes on", x.stuff(0, 1), 99);
    x.wind(0, 1);
    x.go(1);
    check.due("a wind comes", x.air(0, 0), 1);
    check.due("and is smelled", x.monk(0, 3), 1);
  }

  /** As far as its store goes. */
  private static void storesAsFarAsTheyGo() {
    int[] stores = {0, 1, 8, 9, 10, 999};
    for (int store : stores) {
      SmellAbbey x = Check.abbey("stuff s " + store + ";stuff t 50;day a;mix a s 9;room r 100;");
      x.go(1);
      check.due("taken out of " + store, x.stuff(0, 0), Math.max(0, store - 9));
      check.due("much of " + store, x.air(0, 0), Math.min(9, store));
      check.due("of another stuff nothing", x.stuff(1, 0), 50);
    }
  }

  /** Much times part by 100, cut, and what was there ahead times linger by 100, cut, and the wind. */
  private static void airCut() {
    int[][] rows = {{99, 99, 98}, {99, 100, 99}, {1, 99, 0}, {1, 100, 1}, {99, 1, 0}, {99, 2, 1}, {50, 0, 0}, {3, 33, 0}, {4, 25, 1}, {67, 3, 2}};
    for (int[] row : rows) {
      SmellAbbey x = Check.abbey("stuff s 999;day a;mix a s " + row[0] + ";room r " + row[1] + ";");
      x.go(1);
      check.due(row[0] + " times " + row[1], x.air(0, 0), row[2]);
      SmellAbbey y = Check.abbey("stuff s 999;day a;day b;mix a s " + row[0] + ";room r 100;linger " + row[1] + ";");
      y.go(2);
      check.due(row[0] + " lingers by " + row[1], y.air(0, 0), row[2]);
    }
    SmellAbbey x = Check.abbey("stuff s 999;day a;mix a s 1;room r 50;linger 50;");
    x.wind(0, 1);
    x.go(1);
    check.due("a half is cut", x.air(0, 0), 1);
    x.go(1);
    check.due("each half by itself", x.air(0, 0), 0);
  }

  /** The air is E of air, 0 .. 9999; with an error as without. */
  private static void airByLawWithinBounds() {
    String[] formulas = {"0-1", "0", "1", "9998", "9999", "9999+1", "9999*9999*9999", "0-9999*9999*9999", "1/0", "9999*9999*9999*9999"};
    int[] airs = {0, 0, 1, 9998, 9999, 9999, 9999, 0, 4 + 7, 4 + 7};
    for (int i = 0; i < formulas.length; i++) {
      SmellAbbey x = Check.abbey("stuff s 99;day a;day b;mix a s 9;room r 50;linger 50;law air " + formulas[i] + ";");
      x.wind(0, 7);
      x.go(1);
      check.due("air " + formulas[i], x.air(0, 0), airs[i]);
    }
    SmellAbbey x = Check.abbey("stuff s 99;day a;mix a s 9;room r 100;linger 50;law air 100/(date-1);");
    x.go(1);
    check.due("-100 is 0", x.air(0, 0), 0);
    x.go(1);
    check.due("an error at date 1 alone", x.air(0, 0), 9);
    x.go(1);
    check.due("then by the law", x.air(0, 0), 100);
    SmellAbbey y = Check.abbey("stuff s 99;day a;day b;room r 100;room q 100;law air 10/place;");
    y.wind(0, 3);
    y.go(1);
    check.due("an error in one room", y.air(0, 0), 3);
    check.due("is none in another", y.air(1, 0), 10);
  }

  /** The bounds are of E: what lingers wholly grows without one. */
  private static void airWithoutBoundsOfALaw() {
    SmellAbbey x = Check.abbey("stuff s 999;day a;mix a s 99;room r 100;monk m r 99;linger 100;");
    for (int i = 0; i < 10; i++) {
      x.wind(0, 99);
      x.go(1);
    }
    check.due("ten times 198", x.air(0, 0), 1980);
    check.due("it is smelled", x.monk(0, 3), 1);
  }

  /** The wind of a stuff, told by call, is for the next morning alone. */
  private static void windsForOneMorning() {
    SmellAbbey x = Check.abbey("stuff s 0;stuff t 0;room r 0;room q 100;");
    x.wind(0, 99);
    x.go(0);
    check.due("no morning went by", x.stuff(0, 2), 99);
    x.go(1);
    check.due("the wind is there in each room", x.air(0, 0) + x.air(1, 0), 198);
    check.due("of that stuff alone", x.air(0, 1) + x.air(1, 1), 0);
    check.due("gone", x.stuff(0, 2), 0);
    x.wind(0, 99);
    x.go(2);
    check.due("not in the second one", x.air(0, 0), 0);
  }

  /** The stuffs whose air in his room is keen at least, but those of which he has a cold. */
  private static void smellsKeenAtLeast() {
    int[] noses = {1, 2, 50, 98, 99};
    for (int nose : noses) {
      SmellAbbey x = Check.abbey("stuff s 0;stuff t 0;room r 0;room q 0;monk m q " + nose + ";law air wind*place;");
      x.wind(0, nose);
      x.wind(1, nose - 1);
      x.go(1);
      check.due("as much as nose " + nose, x.monk(0, 3), 1);
      x.wind(0, nose);
      x.cold(0, 0, true);
      x.go(1);
      check.due("with a cold", x.monk(0, 3), 0);
      x.cold(0, 0, false);
      x.goes(0, 0);
      x.wind(0, nose);
      x.go(1);
      check.due("in a room without", x.monk(0, 3), 0);
    }
  }

  /** Keen: E of keen, 1 .. 99; nose without, with an error. */
  private static void keenWithinBounds() {
    String[] formulas = {"0-9999", "0", "1", "2", "98", "99", "100", "9999", "1/0", "9999*9999*9999*9999", ""};
    int[] keens = {1, 1, 1, 2, 98, 99, 99, 99, 7, 7, 7};
    for (int i = 0; i < formulas.length; i++) {
      String law = formulas[i].isEmpty() ? "" : "law keen " + formulas[i] + ";";
      int just = keens[i];
      SmellAbbey x = Check.abbey("stuff s 0;day a;day b;mix a s " + just + (just > 1 ? ";mix b s " + (just - 1) : "")
          + ";room r 100;monk m r 7;law air wind;" + law);
      check.due("just so much is in the mark, keen " + formulas[i], x.mark(0, 0), 1);
      check.due("less is not, keen " + formulas[i], x.mark(0, 1), 0);
      x.wind(0, just);
      x.go(1);
      check.due("just so much is smelled, keen " + formulas[i], x.monk(0, 3), 1);
      x.wind(0, just - 1);
      x.go(1);
      check.due("less is not, keen " + formulas[i], x.monk(0, 3), 0);
    }
  }

  /** Mix (none is 0) times part of his room by 100, cut, is keen at least. */
  private static void markCut() {
    int[][] rows = {{99, 99, 98}, {99, 100, 99}, {98, 100, 98}, {1, 100, 1}, {2, 50, 1}, {3, 34, 1}, {99, 50, 49}, {67, 75, 50}, {99, 2, 1}};
    for (int[] row : rows) {
      SmellAbbey x = Check.abbey("stuff s 0;stuff t 0;day a;mix a s " + row[0] + ";room r " + row[1] + ";monk m r " + row[2]
          + ";monk n r " + Math.min(99, row[2] + 1) + ";");
      check.due(row[0] + " times " + row[1] + " is " + row[2], x.mark(0, 0), 1);
      check.due(row[0] + " times " + row[1] + " is no more", x.mark(1, 0), row[2] == 99 ? 1 : 0);
    }
    SmellAbbey none = Check.abbey("stuff s 0;day a;mix a s 99;room r 0;room q 1;monk m r 1;monk n q 1;");
    check.due("part 0", none.mark(0, 0), 0);
    check.due("part 1 of 99 is none", none.mark(1, 0), 0);
    SmellAbbey store = Check.abbey("stuff s 0;day a;mix a s 9;room r 100;monk m r 9;");
    check.due("by what is told, though the store is empty", store.mark(0, 0), 1);
  }

  /** The first day possible from the one behind what he thought ahead on, round about (at first he thought the last day). */
  private static void thinksRoundAbout() {
    SmellAbbey x = Check.abbey("stuff s 0;day a;day b;day c;mix a s 5;mix c s 5;room r 100;monk m r 5;law air wind;");
    check.due("at first the last day", x.monk(0, 4), 2);
    int[] winds = {5, 5, 5, 0, 0, 0, 5, 5};
    int[] thoughts = {0, 2, 0, 1, 1, 1, 2, 0};
    for (int i = 0; i < winds.length; i++) {
      x.wind(0, winds[i]);
      x.go(1);
      check.due("wind " + winds[i] + ", the " + i + "th", x.monk(0, 4), thoughts[i]);
    }
    SmellAbbey one = Check.abbey("stuff s 0;day a;mix a s 5;room r 100;monk m r 5;law air wind;");
    check.due("of one day", one.monk(0, 4), 0);
    one.wind(0, 5);
    one.go(2);
    check.due("that one, possible or not", one.monk(0, 4), 0);
  }

  /** None possible: the one behind. */
  private static void nonePossible() {
    SmellAbbey x = Check.abbey("stuff s 0;day a;day b;day c;mix a s 5;mix b s 5;mix c s 5;room r 100;monk m r 5;");
    for (int i = 0; i < 7; i++) {
      x.go(1);
      check.due("the one behind, the " + i + "th", x.monk(0, 4), i % 3);
    }
    x.wind(0, 5);
    x.go(1);
    check.due("all possible: the one behind as well", x.monk(0, 4), 1);
  }

  /** The house keeps the day that most monks think, of several the first. */
  private static void votes() {
    String days = "stuff s 0;stuff t 0;day a;day b;day c;mix b s 5;mix c t 5;room r 100;room p 100;room q 100;law air 5*(place=1)+5*(place=2)*wind;";
    // in r none is in the air: a; in p s and t are: none, a; in q nothing but with a wind
    SmellAbbey x = Check.abbey("stuff s 0;day a;day b;day c;mix b s 5;room r 100;room q 100;monk k r 5;monk l q 5;law air place*5;");
    x.go(1);
    check.due("one thinks a, one b: a", x.count(7), 0);
    x.go(1);
    check.due("one thinks c, one b: b", x.count(7), 1);
    check.due("c", x.monk(0, 4), 2);
    check.due("b", x.monk(1, 4), 1);
    SmellAbbey y = Check.abbey("stuff s 0;day a;day b;day c;mix b s 5;room r 100;room q 100;monk k r 5;monk l q 5;monk m q 5;law air place*5;");
    y.go(1);
    check.due("two think b", y.count(7), 1);
    SmellAbbey z = Check.abbey(days + "monk k r 5;monk l r 5;monk m p 5;monk n p 5;monk o q 5;");
    z.wind(1, 1);
    z.go(1);
    check.due("four think a, one c", z.count(7), 0);
    check.due("c", z.monk(4, 4), 2);
    z.wind(0, 1);
    z.go(1);
    check.due("two of c, three of b", z.count(7), 1);
  }

  /** Without monks the day itself. */
  private static void withoutMonks() {
    SmellAbbey x = Check.abbey("stuff s 5;day a;day b feast;mix a s 9;room r 100;");
    for (int date = 0; date < 5; date++) {
      x.go(1);
      check.due("the day itself", x.count(7), date % 2);
    }
    check.due("right", x.count(8), 5);
    check.due("never wrong", x.count(9), 0);
  }

  /** A wrong feast, if either of the day and the one kept is a feast, but not the other one. */
  private static void wrongFeasts() {
    String[] feasts = {"", " feast"};
    for (int one = 0; one < 2; one++) {
      for (int two = 0; two < 2; two++) {
        SmellAbbey x = Check.abbey("stuff s 0;day a" + feasts[one] + ";day b" + feasts[two] + ";mix b s 5;room r 100;monk m r 5;law air 5;");
        x.go(1);
        check.due("b kept for a", x.count(7), 1);
        check.due("not right", x.count(8), 0);
        check.due("a wrong feast " + one + two, x.count(9), one == two ? 0 : 1);
        x.go(1);
        check.due("b kept for b", x.count(8), 1);
        check.due("no other wrong feast", x.count(9), one == two ? 0 : 1);
      }
    }
  }

  private static long worth(String formula) {
    return Check.abbey("stuff s 5;law worth " + formula + ";").law(2, 0, 0);
  }

  /** An error: a value above 10 to the 12 or below 0 by more than that, wherever it comes up. */
  private static void valuesUpToTheirBounds() {
    String top = "1000*1000*1000*1000";
    long most = 1000000000000L;
    check.due("just so much", worth(top), most);
    check.due("one more", worth(top + "+1"), ERROR);
    check.due("one more and one less", worth(top + "+1-1"), ERROR);
    check.due("one less and one more", worth(top + "-1+1"), most);
    check.due("below 0 by that", worth("0-" + top), -most);
    check.due("by more than that", worth("0-" + top + "-1"), ERROR);
    check.due("less a number below 0", worth(top + "-(0-1)"), ERROR);
    check.due("both", worth("(" + top + ")+(" + top + ")"), ERROR);
    check.due("both below", worth("0-(" + top + ")-(" + top + ")"), ERROR);
    check.due("times", worth("(1000*1000)*(1000*1000)"), most);
    check.due("times, just more", worth("(1000*1000+1)*(1000*1000)"), ERROR);
    check.due("times, below", worth("(0-1000*1000)*(1000*1000)"), -most);
    check.due("times, just more below", worth("(0-1000*1000-1)*(1000*1000)"), ERROR);
    check.due("times, below the other way", worth("(1000*1000)*(0-1000*1000-1)"), ERROR);
    check.due("times, both below", worth("(0-1000*1000)*(0-1000*1000)"), most);
    check.due("times, both just more below", worth("(0-1000*1000-1)*(0-1000*1000)"), ERROR);
    check.due("times, beyond a long", worth("(" + top + ")*(" + top + ")"), ERROR);
    check.due("times, 2 to the 64 is not 0", worth("(4096*4096*256)*(4096*4096*256)"), ERROR);
    check.due("nor so", worth("(8192*8192*128)*(4096*4096*128)"), ERROR);
    check.due("nor below 0", worth("(0-8192*8192*128)*(4096*4096*128)"), ERROR);
    check.due("nor by a number below 0", worth("(8192*8192*128)*(0-4096*4096*128)"), ERROR);
    check.due("times 0", worth("(" + top + ")*0"), 0);
    check.due("0 times", worth("0*(" + top + ")"), 0);
    check.due("times 1", worth("(" + top + ")*1"), most);
    check.due("1 times below", worth("1*(0-" + top + ")"), -most);
    check.due("an error times 0", worth("(" + top + "+1)*0"), ERROR);
    check.due("an error compared", worth("1<" + top + "+1"), ERROR);
    check.due("so much compared", worth("1<" + top), 1);
    check.due("not of an error", worth("not (" + top + "+1)"), ERROR);
    check.due("by itself", worth(top + "/(" + top + ")"), 1);
    check.due("the greatest number", worth("9999*9999*9999"), 999700029999L);
  }

  /** / is cut towards 0; by 0 it is an error. */
  private static void divisions() {
    String[] formulas = {"7/2", "0-7/2", "(0-7)/2", "7/(0-2)", "(0-7)/(0-2)", "1/2", "(0-1)/2", "0/5", "0/(0-5)", "1/1", "9999/9999", "5/0", "0/0",
        "(0-5)/0", "5/(1-1)", "5/(0*7)", "5/(1<0)", "5/(not 1)", "5/(1<2)", "8/2/2", "8/(2/2)", "8/(1/2)"};
    long[] values = {3, -3, -3, -3, 3, 0, 0, 0, 0, 1, 1, ERROR, ERROR, ERROR, ERROR, ERROR, ERROR, ERROR, 5, 2, 8, ERROR};
    for (int i = 0; i < formulas.length; i++) {
      check.due(formulas[i], worth(formulas[i]), values[i]);
    }
  }

  /** Comparisons, and, or, not are 1 or 0 (what isn't 0 is as 1, both sides are worked out). */
  private static void bothSidesAreWorkedOut() {
    String[] formulas = {"0 and 1/0", "1/0 and 0", "1 or 1/0", "1/0 or 1", "0 or 0", "0-5 or 0", "0-5 and 7", "5 and 0", "0 and 0", "not (0-5)",
        "not 0", "not not 7", "2=2", "2<>2", "2<2", "2<=2", "2>=2", "2>2", "(0-1)<0", "0-1<0", "(2=2)+(3>1)", "5 and 5", "not 5+5", "not 5-5"};
    long[] values = {ERROR, ERROR, ERROR, ERROR, 0, 1, 1, 0, 0, 0, 1, 1, 1, 0, 0, 1, 1, 0, 1, 1, 2, 1, 0, 1};
    for (int i = 0; i < formulas.length; i++) {
      check.due(formulas[i], worth(formulas[i]), values[i]);
    }
  }

  /** Names: of worth part, left, wind, place, nose are 0; of keen much, left, wind; of air nose. */
  private static void namesThatAreNought() {
    String[] names = {"much", "part", "left", "wind", "date", "place", "nose"};
    long[] air = {0, 70, 6, 8, 3, 1, 0};
    long[] keen = {0, 70, 0, 0, 3, 1, 9};
    long[] worth = {20, 0, 0, 0, 3, 0, 0};
    for (int i = 0; i < names.length; i++) {
      SmellAbbey x = Check.abbey("stuff s 20;day a;room q 5;room r 70;monk m r 9;law air (date=2)*6+(date=3)*" + names[i] + ";law keen " + names[i]
          + ";law worth " + names[i] + ";");
      x.go(3);
      x.wind(0, 8);
      check.due("air: " + names[i], x.law(0, 1, 0), air[i]);
      check.due("keen: " + names[i], x.law(1, 0, 0), keen[i]);
      check.due("worth: " + names[i], x.law(2, 0, 0), worth[i]);
    }
    SmellAbbey x = Check.abbey("stuff s 20;day a;mix a s 3;room r 70;law air much*10;");
    check.due("as if nothing were mixed", x.law(0, 0, 0), 0);
    x.go(1);
    check.due("but it is", x.air(0, 0), 30);
  }

  /** Promise 6: IndexOutOfBoundsException: no such monk. NoSuchElementException: no such what. */
  private static void monksThatThereAreNot() {
    SmellAbbey x = Check.abbey("room r 1;monk a r 1;monk b r 1;monk c r 1;monk d r 1;monk e r 1;");
    for (int what = 0; what <= 4; what++) {
      check.due("the last of five", Check.thrown(x, 4, what), 0);
      check.due("the sixth", Check.thrown(x, 5, what), 1);
      check.due("the one ahead of the first", Check.thrown(x, -1, what), 1);
      check.due("without monks", Check.thrown(new SmellAbbey(), 0, what), 1);
    }
    int[] none = {-1, 5, Integer.MIN_VALUE, Integer.MAX_VALUE};
    for (int what : none) {
      check.due("no such what " + what, Check.thrown(x, 4, what), 2);
      check.due("neither", Check.thrown(x, 5, what), 1);
    }
    check.due("it can be asked on", x.monk(4, 1), 1);
  }

  /** Promise 6: 3 what he smelled at the latest morning (0 ahead of the first one), 4 the day he thought. */
  private static void monkAheadOfTheFirstMorning() {
    SmellAbbey x = Check.abbey("stuff s 9;day a;day b;mix a s 1;room r 100;monk m r 1;");
    check.due("smelled nothing yet", x.monk(0, 3), 0);
    check.due("thought the last day", x.monk(0, 4), 1);
    x.go(1);
    check.due("smelled", x.monk(0, 3), 1);
    x.cold(0, 0, true);
    check.due("a cold does not change what he smelled", x.monk(0, 3), 1);
    check.due("no colds but that", x.monk(0, 2), 1);
    x.go(1);
    check.due("nothing at the latest one", x.monk(0, 3), 0);
  }

  /** Promise 7: worth: E of worth, 0 .. 999; 1 without, with an error. */
  private static void worthWithinBounds() {
    String[] formulas = {"0-9999", "0-1", "0", "1", "998", "999", "1000", "9999*9999", "1/0", "9999*9999*9999*9999"};
    int[] worths = {0, 0, 0, 1, 998, 999, 999, 999, 1, 1};
    for (int i = 0; i < formulas.length; i++) {
      SmellAbbey x = Check.abbey("stuff s 5;stuff t 9;day a;mix a t 2;law worth " + formulas[i] + ";");
      check.due("worth " + formulas[i], x.stuff(0, 1), worths[i]);
      check.due("what a costs", x.dearest(1), 2 * worths[i]);
    }
    check.due("without a law", Check.abbey("stuff s 5;law keen 7;law air 8;").stuff(0, 1), 1);
  }

  /** Promises 7 to 11: NONE: no such ones; the last of each kind is there, the one behind it isn't. */
  private static void whatIsNot() {
    SmellAbbey x = full();
    check.due("the sixth stuff", x.stuff(5, 0), 999);
    check.due("the seventh", x.stuff(6, 0), -1);
    check.due("mix of the last two", x.mix(7, 5), 30);
    check.due("of a ninth day", x.mix(8, 5), -1);
    check.due("of a seventh stuff", x.mix(7, 6), -1);
    check.due("none is 0", x.mix(7, 0), 0);
    check.due("the eighth day", x.feast(7), 1);
    check.due("the ninth", x.feast(8), -1);
    check.due("the sixth room", x.air(5, 5), 0);
    check.due("the seventh", x.air(6, 5), -1);
    check.due("its seventh stuff", x.air(5, 6), -1);
    check.due("the mark of the last", x.mark(4, 7) >= 0, true);
    check.due("of a sixth monk", x.mark(5, 7), -1);
    check.due("of a ninth day", x.mark(4, 8), -1);
    check.due("a store of 0 is none less", Check.abbey("stuff s 0;").stuff(0, 0), 0);
  }

  /** Promise 11: keen at the date of now, his room of now, his colds of now. */
  private static void markAtTheDateOfNow() {
    SmellAbbey x = Check.abbey("stuff s 9;stuff t 9;day a;mix a s 9;mix a t 5;room r 100;room q 60;monk m r 1;law keen 1+date*4;");
    int[] marks = {3, 3, 1, 0};
    for (int date = 0; date < marks.length; date++) {
      check.due("at date " + date, x.mark(0, 0), marks[date]);
      x.go(1);
    }
    SmellAbbey y = Check.abbey("stuff s 9;stuff t 9;day a;mix a s 9;mix a t 5;room r 100;room q 60;monk m r 4;");
    check.due("in r", y.mark(0, 0), 3);
    y.goes(0, 1);
    check.due("in q", y.mark(0, 0), 1);
    y.cold(0, 0, true);
    check.due("with a cold", y.mark(0, 0), 0);
    y.undo();
    y.undo();
    check.due("undone", y.mark(0, 0), 3);
  }

  /** Promise 12: Long.MIN_VALUE: an error, no such law, no such ones; else E as it is, beyond bounds, too. */
  private static void lawsAsTheyAre() {
    SmellAbbey x = Check.abbey("stuff s 5;room r 9;monk m r 7;law air 0-5;law keen 5000+nose;law worth 9999*9999*(0-1);");
    check.due("air below 0", x.law(0, 0, 0), -5);
    check.due("keen above 99", x.law(1, 0, 0), 5007);
    check.due("worth below 0", x.law(2, 0, 0), -99980001);
    check.due("keen looks at no stuff", x.law(1, 0, -1), 5007);
    check.due("worth looks at no other", x.law(2, -1, 0), -99980001);
    check.due("no such room", x.law(0, 1, 0), ERROR);
    check.due("no such stuff", x.law(0, 0, 1), ERROR);
    check.due("no such monk", x.law(1, 1, 0), ERROR);
    check.due("no such stuff of worth", x.law(2, 0, 1), ERROR);
    check.due("no such what", x.law(3, 0, 0), ERROR);
    check.due("no such what", x.law(-1, 0, 0), ERROR);
    String[] rules = {"air", "keen", "worth"};
    for (int told = 0; told < 3; told++) {
      SmellAbbey one = Check.abbey("stuff s 5;room r 9;monk m r 7;law " + rules[told] + " 3;");
      SmellAbbey error = Check.abbey("stuff s 5;room r 9;monk m r 7;law " + rules[told] + " 3/date;");
      for (int what = 0; what < 3; what++) {
        check.due(rules[told] + " told, asked " + what, one.law(what, 0, 0), what == told ? 3 : ERROR);
      }
      check.due("an error", error.law(told, 0, 0), ERROR);
      error.go(1);
      check.due("none at the next date", error.law(told, 0, 0), 3);
    }
  }

  /** Promise 13: false: no such ones, it is so. */
  private static void coldThatIsSo() {
    SmellAbbey x = full();
    for (int stuff = 0; stuff < 6; stuff++) {
      check.due("no more of what he has not", x.cold(4, stuff, false), false);
      check.due("a cold of " + stuff, x.cold(4, stuff, true), true);
      check.due("it is so", x.cold(4, stuff, true), false);
      check.due("bits", x.monk(4, 2), (2 << stuff) - 1);
    }
    check.due("six can be undone", x.count(13), 6);
    check.due("of a seventh stuff", x.cold(4, 6, true), false);
    check.due("of a sixth monk", x.cold(5, 0, true), false);
    check.due("no more", x.cold(4, 0, false), true);
    check.due("it is so", x.cold(4, 0, false), false);
    check.due("bits", x.monk(4, 2), 62);
    check.due("the others have none", x.monk(3, 2), 0);
  }

  /** Promise 14: wind 0 .. 99; false: no such ones, it is so. */
  private static void windThatIsSo() {
    SmellAbbey x = full();
    int[] much = {0, -1, 100};
    for (int one : much) {
      check.due("wind " + one, x.wind(5, one), false);
    }
    check.due("wind 99", x.wind(5, 99), true);
    check.due("it is so", x.wind(5, 99), false);
    check.due("100", x.wind(5, 100), false);
    check.due("still 99", x.stuff(5, 2), 99);
    check.due("wind 0", x.wind(5, 0), true);
    check.due("it is so", x.wind(5, 0), false);
    check.due("wind 1", x.wind(5, 1), true);
    check.due("of a seventh", x.wind(6, 1), false);
    check.due("three can be undone", x.count(13), 3);
  }

  /** Promise 15: 1 .. 999; NONE: no such ones, it would be above 9999. */
  private static void buyUpToTheBound() {
    SmellAbbey x = Check.abbey("stuff s 999;stuff t 0;day a;mix a s 1;");
    check.due("0", x.buy(0, 0), -1);
    check.due("1000", x.buy(0, 1000), -1);
    check.due("a third stuff", x.buy(2, 1), -1);
    for (int i = 2; i <= 10; i++) {
      check.due("999 more", x.buy(0, 999), 999 * i);
    }
    check.due("above by one", x.buy(0, 10), -1);
    check.due("above by much", x.buy(0, 999), -1);
    check.due("as it was", x.stuff(0, 0), 9990);
    check.due("just 9999", x.buy(0, 9), 9999);
    check.due("no more", x.buy(0, 1), -1);
    check.due("but of another one", x.buy(1, 1), 1);
    check.due("both", x.count(10), 10000);
    x.go(1);
    check.due("one was taken", x.buy(0, 2), -1);
    check.due("so one more", x.buy(0, 1), 9999);
  }

  /** Promise 16: false: no such ones, he is there. */
  private static void goesWhereHeIs() {
    SmellAbbey x = full();
    check.due("he is there", x.goes(4, 4), false);
    check.due("to the last room", x.goes(4, 5), true);
    check.due("he is there", x.goes(4, 5), false);
    check.due("a seventh room", x.goes(4, 6), false);
    check.due("a sixth monk", x.goes(5, 0), false);
    check.due("back", x.goes(4, 4), true);
    check.due("two can be undone", x.count(13), 2);
  }

  /** Promise 17: 0 .. 99; NONE, and none does: no such number, behind 9999. */
  private static void goUpToTheLastDate() {
    SmellAbbey x = Check.abbey("stuff s 9;day a;day b;room r 1;monk m r 1;");
    check.due("0", x.go(0), 0);
    check.due("none went by", x.count(7), -1);
    check.due("100", x.go(100), -1);
    check.due("none went by", x.count(6), 0);
    for (int i = 1; i <= 100; i++) {
      check.due("99", x.go(99), 99 * i);
    }
    check.due("up to 9998", x.go(98), 9998);
    x.wind(0, 5);
    String seen = Look.at(x);
    check.due("two are too many", x.go(2), -1);
    check.due("99, too", x.go(99), -1);
    check.due("none does", Look.at(x), seen);
    check.due("one is not", x.go(1), 9999);
    check.due("then none", x.go(1), -1);
    check.due("but 0", x.go(0), 9999);
    check.due("right by all", x.count(8), 9999);
    check.due("what would be can be asked", x.tried(0, 0, 99), 99);
    check.due("likewise", x.firstWrong(99), -2);
    check.due("likewise", x.lasts(0), 200);
  }

  /** As many of each as there may be. */
  private static SmellAbbey full() {
    StringBuilder text = new StringBuilder();
    for (int i = 0; i < 8; i++) {
      text.append("day ").append((char) ('a' + i)).append(i == 7 ? " feast;" : ";");
    }
    for (int i = 0; i < 6; i++) {
      text.append("stuff ").append((char) ('a' + i)).append(" 999;room ").append((char) ('a' + i)).append(" 100;");
    }
    for (int i = 0; i < 5; i++) {
      text.append("monk ").append((char) ('a' + i)).append(' ').append((char) ('a' + i)).append(" 20;");
    }
    for (int i = 0; i < 24; i++) {
      text.append("mix ").append((char) ('a' + i / 3)).append(' ').append((char) ('a' + i % 6)).append(" 30;");
    }
    return Check.abbey(text.toString());
  }

  private static void fullHouse() {
    SmellAbbey x = full();
    int[] counts = {6, 8, 6, 5, 24, 0, 0, -1, 0, 0, 5994};
    for (int what = 0; what < counts.length; what++) {
      check.due("count(" + what + ")", x.count(what), counts[what]);
    }
    check.due("go", x.go(8), 8);
    check.due("taken: 24 times 30", x.count(10), 5994 - 720);
    for (int monk = 0; monk < 5; monk++) {
      check.due("what each smelled", x.monk(monk, 3), x.mark(monk, 7));
    }
  }
}
