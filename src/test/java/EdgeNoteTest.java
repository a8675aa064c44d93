/** Promises 30 to 39 and what parts 3 and 4 of the terms say of them: each sentence that names a boundary has a method of its own here. */
public final class EdgeNoteTest {
  private static final Check check = new Check("EdgeNoteTest");
  private static final String HOUSE = "stuff s 99;stuff t 99;day a;day b;day c;mix a s 9;mix b t 9;mix c s 9;mix c t 9;room r 100;room q 50;"
      + "monk m r 5;monk n r 5;";
  /** What he can't have thought behind the first morning, whatever cold he had; and what he must have. */
  private static final int NEVER = 1;
  private static final int EVER = 0;

  public static void main(String[] args) {
    notesUpToTwentyFour();
    notesOfNoneSuch();
    notesOfTheFirstAndTheLastMorning();
    strikesUpToTwentyFour();
    strikesOnlyAhead();
    strikesThatAreStruck();
    knownByNoneToAll();
    knownByTheFirstAlone();
    knownOfNoneSuch();
    coldsOfNoneAndAll();
    coldsFromTheTextOn();
    coldsOfNoneSuch();
    chanceAtItsEnds();
    chanceWindsAreNine();
    chanceOfOneStuff();
    chanceKeepsTheNextWind();
    chanceWithout();
    triedNone();
    triedNothingLingers();
    triedNobodyHasACold();
    triedWithoutTheOnlyMonk();
    triedEndlessStores();
    triedAllPartsWhole();
    triedOfNoneSuch();
    undoUpToTwenty();
    undoOfEachKind();
    undoOnlyWhatWasDone();
    undoUntilAMorning();
    imageOfNothing();
    imageInPlaceOfOneAhead();
    imageKeepsAllButNotes();
    countsAheadOfAll();
    countsOfNoneSuch();
    check.end();
  }

  /** Promise 30: or there are 24. */
  private static void notesUpToTwentyFour() {
    SmellAbbey x = Check.abbey(HOUSE);
    for (int i = 0; i < 24; i++) {
      check.due("note " + i, x.note(1, 0, EVER, true), i);
      check.due("notes", x.count(11), i + 1);
    }
    check.due("there are 24", x.note(1, 0, EVER, true), -1);
    check.due("still 24", x.count(11), 24);
    check.due("all are so", x.colds(0), 7);
    x.text(0);
    check.due("a text has none", x.count(11), 0);
    Check.tell(x, HOUSE);
    check.due("and begins with 0", x.note(1, 0, 0, true), 0);
    SmellAbbey last = Check.abbey(HOUSE);
    for (int i = 0; i < 23; i++) {
      last.note(1, 0, EVER, true);
    }
    last.note(1, 0, NEVER, true);
    check.due("the 24th counts", last.colds(0), 0);
  }

  /** Promise 30: NONE: no such ones. */
  private static void notesOfNoneSuch() {
    SmellAbbey x = Check.abbey(HOUSE);
    int[][] none = {{0, 0, 0}, {41, 0, 0}, {1, 2, 0}, {1, -1, 0}, {1, 0, 3}, {1, 0, -1}, {-1, -1, -1}};
    for (int[] one : none) {
      check.due("note", x.note(one[0], one[1], one[2], true), -1);
      check.due("note, not", x.note(one[0], one[1], one[2], false), -1);
    }
    check.due("none is noted", x.count(11), 0);
    check.due("without days", Check.abbey("room r 1;monk m r 1;").note(1, 0, 0, true), -1);
    check.due("without monks", Check.abbey("day a;").note(1, 0, 0, true), -1);
  }

  /** Behind so many mornings 1 .. 40. */
  private static void notesOfTheFirstAndTheLastMorning() {
    String counting = "stuff s 0;day a;day b;day c;day d;day e;day f;day g;mix b s 5;room r 100;monk m r 5;law air 5*(date=39);";
    for (int day = 0; day < 7; day++) {
      SmellAbbey x = Check.abbey(counting);
      x.note(40, 0, day, true);
      // behind 39 mornings without a smell (b is left out: six by turns) he thinks d; then b by the smell, with a cold e
      check.due("behind 40, day " + day, x.colds(0), day == 1 ? 2 : day == byTurns(40) ? 1 : 0);
      SmellAbbey y = Check.abbey(counting);
      y.note(39, 0, day, true);
      check.due("behind 39, day " + day, y.colds(0), (day == turns(39) ? 2 : 0) + (day == byTurns(39) ? 1 : 0));
      SmellAbbey z = Check.abbey(counting);
      z.note(1, 0, day, true);
      check.due("behind 1, day " + day, z.colds(0), day == 0 ? 3 : 0);
      z.note(1, 0, day, false);
      check.due("and not", z.colds(0), 0);
    }
  }

  /** With a cold of s all days are of one mark: one behind another. */
  private static int byTurns(int mornings) {
    return (mornings - 1) % 7;
  }

  /** Without one b is left out. */
  private static int turns(int mornings) {
    int[] days = {0, 2, 3, 4, 5, 6};
    return days[(mornings - 1) % 6];
  }

  /** Promise 31: NONE: or there are 24. */
  private static void strikesUpToTwentyFour() {
    SmellAbbey x = Check.abbey(HOUSE);
    x.note(1, 0, NEVER, true);
    for (int i = 1; i < 24; i++) {
      check.due("out", x.out(i - 1), i);
      check.due("struck by every other one", x.colds(0), i % 2 == 1 ? 7 : 0);
    }
    check.due("there are 24", x.out(0), -1);
    check.due("nor a note", x.note(1, 0, 0, true), -1);
    check.due("24", x.count(11), 24);
  }

  /** Promise 31: no such note; a note may strike one ahead of it. */
  private static void strikesOnlyAhead() {
    SmellAbbey x = Check.abbey(HOUSE);
    check.due("none yet", x.out(0), -1);
    x.note(1, 0, 0, true);
    check.due("itself", x.out(1), -1);
    check.due("one to come", x.out(2), -1);
    check.due("below 0", x.out(-1), -1);
    check.due("none of these is one", x.count(11), 1);
    check.due("the one ahead", x.out(0), 1);
    check.due("the strike", x.out(1), 2);
  }

  /** What strikes may be struck: then it doesn't count; asked from the last one on. */
  private static void strikesThatAreStruck() {
    SmellAbbey x = Check.abbey(HOUSE);
    x.note(1, 0, NEVER, true);
    x.note(1, 1, NEVER, true);
    check.due("neither can be", x.colds(0), 0);
    x.out(0);
    check.due("the second can't", x.colds(0), 0);
    x.out(1);
    check.due("both struck", x.colds(0), 7);
    x.out(2);
    check.due("the first strike is struck", x.colds(0), 0);
    x.out(4);
    check.due("but that, too", x.colds(0), 7);
    x.out(3);
    x.out(1);
    check.due("one strike of two is enough", x.colds(0), 7);
    x.out(7);
    check.due("none of two is not", x.colds(0), 0);
    SmellAbbey y = Check.abbey(HOUSE);
    y.note(1, 0, EVER, true);
    y.out(0);
    y.note(1, 0, NEVER, true);
    y.out(1);
    check.due("a strike struck does not strike what came behind", y.colds(0), 0);
    y.out(2);
    check.due("that one struck", y.colds(0), 7);
  }

  /** Promise 32: -1: by all, also those to come. */
  private static void knownByNoneToAll() {
    SmellAbbey x = Check.abbey(HOUSE);
    check.due("by none of none", x.known(0), true);
    x.note(1, 0, NEVER, true);
    check.due("it is not known", x.colds(0), 7);
    check.due("by 0", x.count(12), 0);
    check.due("by one of one", x.known(1), true);
    check.due("it is", x.colds(0), 0);
    x.out(0);
    check.due("the strike isn't", x.colds(0), 0);
    check.due("by 1", x.count(12), 1);
    check.due("by all", x.known(-1), true);
    check.due("it is", x.colds(0), 7);
    check.due("by 2", x.count(12), 2);
    x.out(1);
    check.due("and the one to come", x.colds(0), 0);
    check.due("by 3", x.count(12), 3);
  }

  /** Known by n: the first n that aren't struck by one of these. */
  private static void knownByTheFirstAlone() {
    SmellAbbey x = Check.abbey(HOUSE);
    // from date 17 on nothing is left to smell: one day behind another, with a cold of s a ever since, with one of t b
    x.note(40, 0, 0, true);
    x.note(1, 0, NEVER, true);
    x.out(1);
    x.out(2);
    int[] colds = {7, 5, 0, 5, 0};
    for (int n = 0; n <= 4; n++) {
      x.known(n);
      check.due("by the first " + n, x.colds(0), colds[n]);
    }
    x.known(0);
    check.due("again by none", x.colds(0), 7);
    SmellAbbey y = Check.abbey(HOUSE);
    y.note(3, 0, 2, true);
    y.note(1, 0, NEVER, true);
    y.known(1);
    check.due("a note of an earlier morning that isn't known", y.colds(0), 7);
  }

  /** Promise 32: false: no such n. */
  private static void knownOfNoneSuch() {
    SmellAbbey x = Check.abbey(HOUSE);
    for (int i = 0; i < 24; i++) {
      check.due("one too many", x.known(i + 1), false);
      x.note(1, 0, 0, true);
      check.due("just as many", x.known(i + 1), true);
    }
    check.due("25", x.known(25), false);
    check.due("-2", x.known(-2), false);
    check.due("by 24", x.count(12), 24);
    check.due("so it is again", x.known(24), true);
  }

  /** Promise 33: bits; the bit behind all: none. */
  private static void coldsOfNoneAndAll() {
    String stuffs = "";
    for (int n = 0; n <= 6; n++) {
      SmellAbbey x = Check.abbey(stuffs + "day z;room r 1;monk m r 1;");
      check.due("without notes all of " + n, x.colds(0), (2 << n) - 1);
      stuffs += "stuff " + (char) ('a' + n) + " 1;";
    }
    SmellAbbey x = Check.abbey(HOUSE);
    x.note(1, 0, NEVER, true);
    check.due("nothing may be", x.colds(0), 0);
    SmellAbbey last = Check.abbey("stuff a 0;stuff b 0;stuff c 0;stuff d 0;stuff e 0;stuff f 0;day y;day z;mix z f 5;room r 100;monk m r 5;law air 5;");
    // with a cold of f, only then, both days would be of one mark: y, the one behind, as none is possible
    last.note(1, 0, 0, true);
    check.due("he smells what is in no mark, whatever cold he has: y", last.colds(0), 127);
    SmellAbbey f = Check.abbey("stuff a 0;stuff b 0;stuff c 0;stuff d 0;stuff e 0;stuff f 0;day y;day z;mix z f 5;room r 100;monk m r 5;law air wind+5*date/5;");
    f.note(2, 0, 0, true);
    check.due("two mornings without a smell: y again", f.colds(0), 95);
    f.note(2, 0, 0, false);
    check.due("both can't be", f.colds(0), 0);
    f.out(0);
    check.due("a cold of f: z, the other one", f.colds(0), 32);
  }

  /** Of which alone he may have had a cold from the text on: what calls do counts as little as what mornings did. */
  private static void coldsFromTheTextOn() {
    SmellAbbey x = Check.abbey(HOUSE);
    x.note(40, 0, 0, true);
    check.due("ahead", x.colds(0), 5);
    x.cold(0, 0, true);
    x.cold(1, 1, true);
    x.wind(0, 99);
    x.goes(0, 1);
    x.buy(1, 999);
    check.due("behind calls", x.colds(0), 5);
    x.go(99);
    check.due("behind mornings", x.colds(0), 5);
    check.due("of the other one", x.colds(1), 7);
  }

  /** Promise 33: NONE: no such monk. */
  private static void coldsOfNoneSuch() {
    SmellAbbey x = Check.abbey(HOUSE);
    int[] none = {-1, 2, 5, Integer.MAX_VALUE, Integer.MIN_VALUE};
    for (int monk : none) {
      check.due("colds(" + monk + ")", x.colds(monk), -1);
    }
    check.due("without days", Check.abbey("stuff s 1;room r 1;monk m r 1;").colds(0), 3);
    check.due("without stuffs", Check.abbey("room r 1;monk m r 1;").colds(0), 1);
  }

  /** Promise 34: a seed 0 .. 2147483647, n 1 .. 40, at least so often 0 .. 40. */
  private static void chanceAtItsEnds() {
    SmellAbbey x = Check.abbey("stuff s 1;day a;room r 1;monk m r 1;");
    int[] seeds = {0, 1, 2147483646, 2147483647};
    for (int seed : seeds) {
      check.due("one day is always right", x.chance(seed, 1, 1), 10);
      check.due("40 of 40", x.chance(seed, 40, 40), 10);
      check.due("more often than there are mornings", x.chance(seed, 1, 2), 0);
      check.due("40 of 39", x.chance(seed, 39, 40), 0);
      check.due("at least 0 times", x.chance(seed, 40, 0), 10);
    }
    int[][] none = {{-1, 1, 0}, {Integer.MIN_VALUE, 1, 0}, {0, 0, 0}, {0, 41, 0}, {0, -1, 0}, {0, 1, -1}, {0, 1, 41}};
    for (int[] one : none) {
      check.due("chance(" + one[0] + ", " + one[1] + ", " + one[2] + ")", x.chance(one[0], one[1], one[2]), -1);
    }
  }

  /** Wind of that one is 9 then. */
  private static void chanceWindsAreNine() {
    SmellAbbey x = Check.abbey("stuff s 0;day a;day b;mix b s 9;room r 100;monk m r 9;monk n r 9;monk o r 9;");
    SmellAbbey y = Check.abbey("stuff s 0;day a;day b;mix b s 10;room r 100;monk m r 10;monk n r 10;monk o r 10;");
    int blown = 0;
    for (int seed = 0; seed < 8; seed++) {
      blown += 10 - x.chance(seed * 268435455, 1, 1);
      check.due("9 is not 10", y.chance(seed * 268435455, 1, 1), 10);
    }
    check.due("9 is 9", blown > 0, true);
  }

  /** A number modulo how many stuffs there are is drawn even if there is one only; one row of numbers for all ten times. */
  private static void chanceOfOneStuff() {
    for (int i = 0; i < 24; i++) {
      int seed = i * 89478485;
      for (int n = 1; n <= 5; n++) {
        SmellAbbey x = Check.abbey("stuff s 0;day a;day b;day c;mix b s 9;room r 100;monk m r 9;");
        for (int often = 0; often <= n; often++) {
          check.due("chance(" + seed + ", " + n + ", " + often + ")", x.chance(seed, n, often), times(seed, n, often));
        }
      }
    }
  }

  /** The same by hand: without a wind the days of no smell, a and c, by turns; with one b. */
  private static int times(int seed, int n, int often) {
    long last = seed;
    int times = 0;
    for (int i = 0; i < 10; i++) {
      int thought = 2;
      int right = 0;
      for (int morning = 0; morning < n; morning++) {
        last = (last * 1103515245L + 12345L) % 2147483648L;
        boolean blows = last / 65536 % 4 == 0;
        if (blows) {
          last = (last * 1103515245L + 12345L) % 2147483648L;
        }
        thought = blows ? 1 : thought == 2 ? 0 : 2;
        right += thought == morning % 3 ? 1 : 0;
      }
      times += right >= often ? 1 : 0;
    }
    return times;
  }

  /** As it goes: the winds told for the next morning are there, in each of the ten times. */
  private static void chanceKeepsTheNextWind() {
    SmellAbbey x = Check.abbey("stuff s 0;day a;day b;mix a s 20;room r 100;monk m r 20;monk n r 20;");
    check.due("without a wind b, the one day of no smell", x.chance(7, 1, 1), 0);
    x.wind(0, 20);
    int right = x.chance(7, 1, 1);
    check.due("with one a, but where one by chance takes its place", right, 10 - blown(7));
    check.due("the wind stays", x.stuff(0, 2), 20);
  }

  private static int blown(int seed) {
    long last = seed;
    int blown = 0;
    for (int i = 0; i < 10; i++) {
      last = (last * 1103515245L + 12345L) % 2147483648L;
      if (last / 65536 % 4 == 0) {
        last = (last * 1103515245L + 12345L) % 2147483648L;
        blown++;
      }
    }
    return blown;
  }

  /** Promise 34: NONE: no stuffs. */
  private static void chanceWithout() {
    check.due("no stuffs", Check.abbey("day a;room r 1;monk m r 1;").chance(1, 1, 0), -1);
    check.due("no days, not right", Check.abbey("stuff s 1;room r 1;monk m r 1;").chance(1, 40, 1), 0);
    check.due("no days, at least 0 times", Check.abbey("stuff s 1;").chance(1, 40, 0), 10);
    check.due("no monks, always right", Check.abbey("stuff s 1;day a;day b;").chance(1, 40, 40), 10);
  }

  /** Promise 35: n 0 .. 99. */
  private static void triedNone() {
    SmellAbbey x = Check.abbey(HOUSE);
    for (int what = 0; what <= 5; what++) {
      check.due("none", x.tried(what, 0, 0), 0);
      check.due("one", x.tried(what, 0, 1), 1);
      check.due("99", x.tried(what, 0, 99) >= 0, true);
      check.due("100", x.tried(what, 0, 100), -1);
      check.due("-1", x.tried(what, 0, -1), -1);
    }
    x.go(5);
    check.due("what was right ahead does not count", x.tried(0, 0, 3), 3);
  }

  /** 1 nothing lingers (left 0): neither what is there now nor what would be. */
  private static void triedNothingLingers() {
    String[] lingering = {"linger 100;", "law air much+left;", "law air much+left*(date>0);"};
    for (String one : lingering) {
      SmellAbbey x = Check.abbey("stuff s 999;stuff t 999;day a;day b;mix a s 9;mix b t 9;room r 100;monk m r 9;" + one);
      x.wind(1, 9);
      x.go(2);
      check.due("both smells: none possible, by turns", x.tried(0, 0, 4), 4);
      check.due("nothing lingers", x.tried(1, 0, 4), 4);
      SmellAbbey y = Check.abbey("stuff s 999;day a;day b;mix a s 9;room r 100;monk m r 9;" + one);
      check.due("a ever since", y.tried(0, 0, 10), 5);
      check.due("nothing lingers", y.tried(1, 0, 10), 10);
      y.go(1);
      check.due("as it is", y.tried(0, 0, 10), 5);
      check.due("nor does what is there", y.tried(1, 0, 10), 10);
      check.due("the air stays", y.air(0, 0), 9);
    }
  }

  /** 2 nobody has a cold: the first one as little as the last. */
  private static void triedNobodyHasACold() {
    SmellAbbey x = Check.abbey("stuff s 999;day a;day b;day c;mix b s 9;room r 100;monk i r 5;monk j r 5;monk k r 5;monk l r 5;monk m r 5;"
        + "law air (date=0)*9+(date>0)*much;");
    x.go(1);
    check.due("all think b on a", x.count(7), 1);
    for (int monk = 0; monk < 5; monk++) {
      x.cold(monk, 0, true);
    }
    check.due("with colds all days are alike: one ahead ever since", x.tried(0, 0, 99), 0);
    check.due("without they smell b on b", x.tried(2, 0, 99), 99);
    check.due("each alone isn't there, the others have colds", x.tried(3, 0, 9) + x.tried(3, 4, 9), 0);
    check.due("they have them still", x.monk(0, 2) + x.monk(4, 2), 2);
    for (int monk = 0; monk < 2; monk++) {
      x.cold(monk, 0, false);
    }
    check.due("two without are less than three with", x.tried(0, 0, 1), 0);
    x.cold(4, 0, false);
    check.due("three are more than two", x.tried(0, 0, 1), 1);
  }

  /** 3 monk i isn't there: without the only one the house keeps the day itself. */
  private static void triedWithoutTheOnlyMonk() {
    SmellAbbey x = Check.abbey("stuff s 0;day a;day b;mix b s 5;room r 100;monk m r 5;law air 5;");
    check.due("he thinks b ever", x.tried(0, 0, 10), 5);
    check.due("without him", x.tried(3, 0, 10), 10);
    check.due("there is no second", x.tried(3, 1, 10), -1);
    check.due("he is there still", x.count(3), 1);
    SmellAbbey two = Check.abbey("stuff s 0;day a;day b;mix b s 5;room r 100;room q 0;monk m r 5;monk n q 5;law air part/20;");
    check.due("one thinks b ever, one by turns; of several the first", two.tried(0, 0, 10), 10);
    check.due("without m", two.tried(3, 0, 10), 10);
    check.due("without n", two.tried(3, 1, 10), 5);
  }

  /** 4 stores are endless. */
  private static void triedEndlessStores() {
    SmellAbbey x = Check.abbey("stuff s 0;stuff t 0;day a;day b;day c;mix a s 99;mix b t 99;room r 100;monk m r 99;");
    check.due("nothing to mix: c ever", x.tried(0, 0, 99), 33);
    check.due("endless", x.tried(4, 0, 99), 99);
    check.due("the store is as it was", x.stuff(0, 0), 0);
  }

  /** 5 all parts are 100: what reaches a room, and what a monk takes for possible. */
  private static void triedAllPartsWhole() {
    SmellAbbey x = Check.abbey("stuff s 999;day a;day b;day c;mix b s 99;room r 0;monk m r 99;law air much*part/100+(date=0)*99;");
    check.due("nothing reaches him: none possible, then one behind another", x.tried(0, 0, 9), 9);
    check.due("all does: b for a, then c by no smell, then a", x.tried(5, 0, 1), 0);
    SmellAbbey y = Check.abbey("stuff s 999;day a;day b;mix b s 99;room r 99;monk m r 99;");
    check.due("98 is not 99: by turns", y.tried(0, 0, 4), 4);
    y.wind(0, 1);
    y.go(1);
    y.wind(0, 1);
    check.due("99 by the wind, but no day is such", y.tried(0, 0, 1), 1);
    SmellAbbey z = Check.abbey("stuff s 999;day a;day b;day c;mix b s 99;room r 99;monk m r 99;law keen (part=100)*99+(part<100)*1;");
    z.wind(0, 99);
    z.go(1);
    check.due("b for a", z.count(7), 1);
    check.due("b is smelled by either", z.tried(5, 0, 1) + z.tried(0, 0, 1), 2);
  }

  /** Promise 35: NONE: no such ones (i 0 of all but 3). */
  private static void triedOfNoneSuch() {
    SmellAbbey x = Check.abbey(HOUSE);
    for (int what = 0; what <= 5; what++) {
      check.due("tried(" + what + ", 1, 1)", x.tried(what, 1, 1), what == 3 ? 1 : -1);
      check.due("tried(" + what + ", 2, 1)", x.tried(what, 2, 1), -1);
      check.due("tried(" + what + ", -1, 1)", x.tried(what, -1, 1), -1);
    }
    check.due("tried(6, 0, 1)", x.tried(6, 0, 1), -1);
    check.due("tried(-1, 0, 1)", x.tried(-1, 0, 1), -1);
    check.due("without monks", Check.abbey("day a;").tried(3, 0, 1), -1);
    check.due("without days", Check.abbey("stuff s 1;room r 1;monk m r 1;").tried(3, 0, 99), 0);
  }

  /** Part 4: the latest first, 20 at most: of one more the first one can't be undone any more. */
  private static void undoUpToTwenty() {
    for (int calls = 19; calls <= 23; calls++) {
      SmellAbbey x = Check.abbey(HOUSE);
      for (int i = 0; i < calls; i++) {
        mixedCall(x, i);
      }
      check.due(calls + " calls", x.count(13), Math.min(20, calls));
      for (int left = Math.min(20, calls) - 1; left >= 0; left--) {
        check.due("undo", x.undo(), left);
        SmellAbbey y = Check.abbey(HOUSE);
        for (int i = 0; i < calls - Math.min(20, calls) + left; i++) {
          mixedCall(y, i);
        }
        check.due("as behind " + (calls - Math.min(20, calls) + left), changed(x), changed(y));
      }
      check.due("none", x.undo(), -1);
      check.due("none is left", x.count(13), 0);
      check.due("there is place for twenty again", again(x), 20);
    }
  }

  private static int again(SmellAbbey x) {
    for (int i = 0; i < 25; i++) {
      x.wind(0, 30 + i);
    }
    return x.count(13);
  }

  private static void mixedCall(SmellAbbey x, int i) {
    switch (i % 4) {
      case 0:
        check.due("cold", x.cold(i / 8 % 2, i / 4 % 2, i / 16 == 0), true);
        break;
      case 1:
        check.due("wind", x.wind(i / 4 % 2, 1 + i), true);
        break;
      case 2:
        check.due("buy", x.buy(i / 4 % 2, 1 + i) > 0, true);
        break;
      default:
        check.due("goes", x.goes(i / 4 % 2, 1 - x.monk(i / 4 % 2, 0)), true);
        break;
    }
  }

  private static String changed(SmellAbbey x) {
    StringBuilder seen = new StringBuilder();
    for (int i = 0; i < 2; i++) {
      seen.append(x.monk(i, 0)).append(' ').append(x.monk(i, 2)).append(' ').append(x.stuff(i, 0)).append(' ').append(x.stuff(i, 2)).append('|');
    }
    return seen.toString();
  }

  /** Promise 36: of each kind what was there ahead. */
  private static void undoOfEachKind() {
    SmellAbbey x = Check.abbey(HOUSE);
    check.due("none", x.undo(), -1);
    x.cold(1, 1, true);
    check.due("a cold", x.undo(), 0);
    check.due("is gone", x.monk(1, 2), 0);
    x.cold(1, 1, true);
    x.cold(1, 0, true);
    x.cold(1, 1, false);
    check.due("one that ended", x.undo(), 2);
    check.due("is back", x.monk(1, 2), 3);
    x.wind(1, 99);
    x.wind(1, 0);
    check.due("a wind that was ended", x.undo(), 3);
    check.due("is back", x.stuff(1, 2), 99);
    x.buy(0, 999);
    x.buy(0, 1);
    check.due("what was bought", x.undo(), 4);
    check.due("the one ahead stays", x.stuff(0, 0), 1098);
    x.goes(0, 1);
    check.due("a room", x.undo(), 4);
    check.due("is the one ahead", x.monk(0, 0), 0);
  }

  /** What was refused, asked, noted, kept can't be undone. */
  private static void undoOnlyWhatWasDone() {
    SmellAbbey x = Check.abbey(HOUSE);
    x.wind(0, 5);
    x.wind(0, 5);
    x.wind(0, 100);
    x.cold(0, 0, false);
    x.buy(0, 0);
    x.goes(0, 0);
    x.goes(0, 9);
    x.go(0);
    x.go(-1);
    x.go(100);
    x.note(1, 0, 0, true);
    x.out(0);
    x.known(1);
    x.keep();
    x.tried(2, 0, 9);
    x.chance(1, 9, 1);
    x.colds(0);
    Check.tell(x, "@");
    x.text(-1);
    check.due("one", x.count(13), 1);
    check.due("the wind", x.undo(), 0);
    check.due("is gone", x.stuff(0, 2), 0);
    check.due("the notes are there", x.count(11), 2);
    check.due("none", x.undo(), -1);
    check.due("none again", x.undo(), -1);
  }

  /** If no morning went by since. */
  private static void undoUntilAMorning() {
    SmellAbbey x = Check.abbey(HOUSE);
    x.buy(0, 5);
    x.cold(0, 0, true);
    x.go(1);
    check.due("nothing", x.count(13), 0);
    check.due("none", x.undo(), -1);
    check.due("the cold stays", x.monk(0, 2), 1);
    x.cold(0, 0, false);
    check.due("but what came since", x.undo(), 0);
    check.due("the cold is back", x.monk(0, 2), 1);
    x.wind(0, 5);
    x.keep();
    x.back();
    check.due("back: nothing", x.undo(), -1);
    check.due("the wind of the image", x.stuff(0, 2), 5);
    x.wind(0, 6);
    Check.tell(x, HOUSE);
    check.due("a text: nothing", x.undo(), -1);
  }

  /** Promise 38: NONE: there is none. */
  private static void imageOfNothing() {
    SmellAbbey x = new SmellAbbey();
    check.due("none", x.back(), -1);
    check.due("keep", x.keep(), 0);
    check.due("back", x.back(), 0);
    check.due("it stays", x.back(), 0);
    x.text(0);
    check.due("a text has none", x.back(), -1);
    x.keep();
    x.text(1);
    check.due("-2 leaves it", x.back(), 0);
    Check.tell(x, "@");
    check.due("a fault leaves it", x.back(), 0);
  }

  /** Promise 37: in place of one ahead: which date it is. */
  private static void imageInPlaceOfOneAhead() {
    SmellAbbey x = Check.abbey(HOUSE);
    x.go(3);
    check.due("date 3", x.keep(), 3);
    x.go(4);
    check.due("back at 3", x.back(), 3);
    x.go(6);
    check.due("date 9", x.keep(), 9);
    x.go(99);
    check.due("back at 9", x.back(), 9);
    check.due("and again", x.back(), 9);
    check.due("the date", x.count(6), 9);
    for (int i = 0; i < 100; i++) {
      x.go(99);
    }
    check.due("9909", x.keep(), 9909);
    x.go(90);
    check.due("the last", x.keep(), 9999);
    check.due("back to that", x.back(), 9999);
    check.due("none behind it", x.go(1), -1);
  }

  /** Promise 38: all (but notes) is as in the image (nothing to undo then). */
  private static void imageKeepsAllButNotes() {
    SmellAbbey x = Check.abbey(HOUSE + "linger 50;");
    x.go(2);
    x.cold(0, 1, true);
    x.wind(1, 4);
    x.buy(0, 9);
    x.goes(1, 1);
    String before = bare(x);
    x.keep();
    check.due("keep leaves all", bare(x), before);
    check.due("and what can be undone", x.count(13), 4);
    x.note(1, 0, 0, true);
    x.cold(0, 1, false);
    x.goes(1, 0);
    x.go(7);
    x.wind(0, 3);
    check.due("something else by now", bare(x).equals(before), false);
    check.due("back", x.back(), 2);
    check.due("all", bare(x), before);
    check.due("nothing to undo", x.count(13), 0);
    check.due("the note", x.count(11), 1);
    x.undo();
    check.due("undone nothing", bare(x), before);
    SmellAbbey y = Check.abbey(HOUSE + "linger 50;");
    y.go(2);
    y.cold(0, 1, true);
    y.wind(1, 4);
    y.buy(0, 9);
    y.goes(1, 1);
    x.go(5);
    y.go(5);
    check.due("and it goes on likewise", bare(x), bare(y));
  }

  private static String bare(SmellAbbey x) {
    StringBuilder seen = new StringBuilder();
    for (int what = 6; what <= 10; what++) {
      seen.append(x.count(what)).append(' ');
    }
    for (int i = 0; i < 2; i++) {
      for (int what = 0; what <= 4; what++) {
        seen.append(x.monk(i, what)).append(' ');
      }
      seen.append(x.stuff(i, 0)).append(' ').append(x.stuff(i, 2)).append(' ').append(x.air(i, 0)).append(' ').append(x.air(i, 1)).append('|');
    }
    return seen.toString();
  }

  /** Promise 39: 7 NONE ahead of the first one, without days. */
  private static void countsAheadOfAll() {
    SmellAbbey x = Check.abbey(HOUSE + "law worth 1;");
    int[] counts = {2, 3, 2, 2, 4, 1, 0, -1, 0, 0, 198, 0, 0, 0};
    for (int what = 0; what < counts.length; what++) {
      check.due("count(" + what + ")", x.count(what), counts[what]);
    }
    x.go(0);
    check.due("none yet", x.count(7), -1);
    x.go(1);
    check.due("the first", x.count(7), 0);
    x.keep();
    x.go(1);
    x.back();
    check.due("as it was kept", x.count(7), 0);
    SmellAbbey y = Check.abbey("stuff s 9;room r 1;monk m r 1;");
    y.go(9);
    check.due("without days", y.count(7), -1);
    check.due("not right", y.count(8), 0);
    check.due("the date", y.count(6), 9);
    SmellAbbey rich = Check.abbey("stuff a 999;stuff b 999;stuff c 999;stuff d 999;stuff e 999;stuff f 999;");
    for (int stuff = 0; stuff < 6; stuff++) {
      for (int i = 0; i < 9; i++) {
        rich.buy(stuff, 999);
      }
      rich.buy(stuff, 9);
    }
    check.due("all stores full", rich.count(10), 59994);
  }

  /** Promise 39: NONE for another what. */
  private static void countsOfNoneSuch() {
    SmellAbbey x = Check.abbey(HOUSE);
    int[] none = {-1, 14, 15, 100, Integer.MIN_VALUE, Integer.MAX_VALUE};
    for (int what : none) {
      check.due("count(" + what + ")", x.count(what), -1);
    }
  }
}
