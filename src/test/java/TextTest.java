/** Promises 1 to 5 and what count() tells of a text: the tape, the language, its faults, names. */
public final class TextTest {
  private static final Check check = new Check("TextTest");

  public static void main(String[] args) {
    newObject();
    tape();
    lines();
    readsAgain();
    nothingIsLeftOfEarlierTexts();
    threeLaws();
    endsWithinTheTape();
    faultOne();
    faultTwo();
    faultThree();
    faultFour();
    firstFaultAlongTheText();
    signs();
    names();
    check.end();
  }

  /** Promise 1. */
  private static void newObject() {
    SmellAbbey x = new SmellAbbey();
    for (int what = 0; what <= 13; what++) {
      check.due("count(" + what + ") of a new one", x.count(what), what == 7 ? -1 : 0);
    }
    check.due("fault(0) of a new one", x.fault(0), 0);
    check.due("fault(1) of a new one", x.fault(1), -1);
    check.due("fault(2)", x.fault(2), -1);
    check.due("fault(-1)", x.fault(-1), -1);
    check.due("text(1) of an empty tape", x.text(1), -2);
    check.due("feed on an empty tape", x.feed(0, 0, 0, 0, 0), 20);
  }

  /** Promises 2 and 3. */
  private static void tape() {
    SmellAbbey x = new SmellAbbey();
    for (int fed = 20; fed <= 700; fed += 20) {
      check.due("feed", x.feed(0x20202020, 0x20202020, 0x0a0a0a0a, 0x20202020, 0x20202020), fed);
    }
    check.due("feed beyond 700", x.feed(1, 2, 3, 4, 5), -1);
    check.due("text(701)", x.text(701), -2);
    check.due("text(-1)", x.text(-1), -2);
    check.due("text of 700 blanks", x.text(700), 0);
    check.due("feed behind text", x.feed(0x64617920, 0x613b6461, 0x7920623b, 0x3b3b3b3b, 0), 20);
    check.due("text of the first twelve", x.text(12), 2);
    check.due("the rest of the tape is gone", x.text(1), -2);
    check.due("days", x.count(1), 2);
    x.feed(0x64617920, 0x613b6461, 0x7920613b, 0, 0);
    check.due("text with a fault", x.text(12), -1);
    check.due("the tape is empty then, too", x.text(1), -2);
    check.due("fault stays behind -2", x.fault(0), 3);
    check.due("its place", x.fault(1), 10);
    check.due("days stay", x.count(1), 2);
    check.due("high bytes are no tokens", feedAndRead(x, 0x80646179), 1);
    check.due("byte 255", feedAndRead(x, 0xff000000), 1);
  }

  private static int feedAndRead(SmellAbbey x, int first) {
    x.feed(first, 0x20202020, 0x20202020, 0x20202020, 0x20202020);
    return x.text(20) == -1 && x.fault(1) == 0 ? x.fault(0) : -9;
  }

  private static void lines() {
    fine("", 0);
    fine(" \n ", 0);
    fine("day a;", 1);
    fine("day a feast;day feasts;", 2);
    fine("\nday\na\n;\n", 1);
    fine("stuff a 0;stuff b 999;stuff c 007;", 3);
    fine("day a;stuff a 1;room a 0;room b 100;monk a a 1;monk b b 99;mix a a 99;", 7);
    fine("linger 0;seed 0;", 2);
    fine("linger 100;seed 99999;", 2);
    fine("law air 9999;law keen 0;law worth much;", 3);
    fine("day abcdef;", 1);
    fine("room r00100;", 1);
    fine("law air 1and 2or 3;", 1);
  }

  private static void fine(String text, int lines) {
    check.due(text, Check.tell(new SmellAbbey(), text), lines);
  }

  /** Promise 3: what a text puts back, and what a fault leaves. */
  private static void readsAgain() {
    String text = "stuff s 50;day a;day b;mix a s 9;room r 100;room q 50;monk m r 3;law worth 7;";
    SmellAbbey x = Check.abbey(text);
    stir(x);
    check.due("a fault", Check.tell(x, "day a;;"), -1);
    check.due("date stays", x.count(6), 3);
    check.due("kept stays", x.count(7), 0);
    check.due("notes stay", x.count(11), 2);
    check.due("known stays", x.count(12), 1);
    check.due("undoing stays", x.count(13), 4);
    check.due("wind stays", x.stuff(0, 2), 5);
    check.due("air stays", x.air(0, 0), 9);
    check.due("the image stays", x.back(), 3);
    stir(x);
    check.due("the same text", Check.tell(x, text), 8);
    check.due("no fault", x.fault(0), 0);
    check.due("no place", x.fault(1), -1);
    int[] counts = {1, 2, 2, 1, 1, 1, 0, -1, 0, 0, 50, 0, 0, 0};
    for (int what = 0; what < counts.length; what++) {
      check.due("count(" + what + ")", x.count(what), counts[what]);
    }
    int[] monk = {0, 3, 0, 0, 1};
    for (int what = 0; what < monk.length; what++) {
      check.due("monk(0, " + what + ")", x.monk(0, what), monk[what]);
    }
    check.due("wind", x.stuff(0, 2), 0);
    check.due("air", x.air(0, 0), 0);
    check.due("image", x.back(), -1);
    check.due("undo", x.undo(), -1);
    check.due("all known again", x.note(1, 0, 0, true) + x.note(1, 0, 0, true) + x.count(12), 3);
    check.due("an empty text", x.text(0), 0);
    check.due("no stuffs", x.stuff(0, 0), -1);
    check.due("no law", x.law(2, 0, 0), Long.MIN_VALUE);
  }

  /** A text, good or faulty, and the one ahead of it leave nothing in the next one. */
  private static void nothingIsLeftOfEarlierTexts() {
    String full = "stuff s 9;stuff t 9;day a feast;day b feast;mix a s 9;mix b t 9;linger 50;seed 5;law air 5;law keen 7;law worth 9;";
    String plain = "stuff s 8;stuff t 8;day a;day b;room r 100;monk m r 5;";
    SmellAbbey x = Check.abbey(full);
    check.due("again", Check.tell(x, full), 11);
    check.due("and once more", Check.tell(x, full), 11);
    check.due("knots", x.count(5), 3);
    Check.tell(x, full + "mix a s 1;");
    check.due("a fault", x.fault(0), 3);
    check.due("then a plain one", Check.tell(x, plain), 6);
    check.due("no knots", x.count(5), 0);
    check.due("no mixes", x.count(4), 0);
    for (int i = 0; i < 2; i++) {
      check.due("no feast", x.feast(i), 0);
      check.due("no mix", x.mix(i, i), 0);
      check.due("worth", x.stuff(i, 1), 1);
    }
    check.due("no law of the air", x.law(0, 0, 0), Long.MIN_VALUE);
    check.due("no law of a nose", x.law(1, 0, 0), Long.MIN_VALUE);
    x.wind(0, 8);
    x.go(2);
    check.due("nothing lingers", x.air(0, 0), 0);
    check.due("no wrong feast", x.count(9), 0);
    check.due("laws anew", Check.tell(x, "stuff s 3;law worth much*2;law keen 1+1;"), 3);
    check.due("worth by the new law", x.stuff(0, 1), 6);
    SmellAbbey wrong = Check.abbey("stuff s 9;day a;day b feast;mix b s 9;room r 100;monk m r 5;law air 9;");
    wrong.go(3);
    check.due("wrong feasts", wrong.count(9) > 0, true);
    wrong.text(0);
    check.due("none any more", wrong.count(9), 0);
  }

  private static void threeLaws() {
    SmellAbbey x = new SmellAbbey();
    for (int i = 0; i < 3; i++) {
      check.due("laws", Check.tell(x, "stuff s 3;room r 9;monk m r 7;law worth much" + "+much".repeat(9) + ";law keen nose" + "+1".repeat(10)
          + ";law air part" + "-1".repeat(11) + ";"), 6);
      check.due("63 knots", x.count(5), 63);
      check.due("worth", x.law(2, 0, 0), 30);
      check.due("keen", x.law(1, 0, 0), 17);
      check.due("air", x.law(0, 0, 0), -2);
    }
  }

  /** What lies behind the n-th byte is no part of a token. */
  private static void endsWithinTheTape() {
    String[] texts = {"day abc;", "day a;stuff b 12;", "law air 1<=2;", "law air 1<>2;", "law air 1>=2;", "law air much;", "day a; ;"};
    int[] lengths = {6, 15, 10, 10, 10, 9, 7};
    int[] faults = {1, 1, 1, 1, 1, 1, 0};
    for (int i = 0; i < texts.length; i++) {
      SmellAbbey x = new SmellAbbey();
      Check.feedAll(x, Check.bytes(texts[i]));
      check.due(texts[i] + " cut", x.text(lengths[i]), faults[i] == 0 ? 1 : -1);
      check.due(texts[i] + " fault", x.fault(0), faults[i]);
      check.due(texts[i] + " place", x.fault(1), i == 5 ? 8 : faults[i] == 0 ? -1 : lengths[i]);
    }
    SmellAbbey full = new SmellAbbey();
    String text = "day a;" + " ".repeat(690) + "day";
    Check.feedAll(full, Check.bytes(text + "x"));
    check.due("a word up to the end of the tape", full.text(700), -1);
    check.due("a word of the language and a letter", full.fault(1), 696);
    Check.feedAll(full, Check.bytes(" ".repeat(694) + "day  a"));
    check.due("a line up to the end of the tape", full.text(700), -1);
    check.due("more must come", full.fault(1), 700);
  }

  private static void stir(SmellAbbey x) {
    x.go(3 - x.count(6));
    x.keep();
    x.cold(0, 0, true);
    x.wind(0, 5);
    x.buy(0, 9);
    x.goes(0, 1);
    x.note(1, 0, 0, true);
    x.out(0);
    x.known(1);
  }

  private static void faultOne() {
    String[] texts = {";", "@day", "Day a;", "day@", "day a", "day ", "day", "day a  \n", "day abcdefg;", "stuffed a 1;",
        "a;", "feast;", "12;", "day 1;", "day a feast", "day a feast feast;", "day a b;", "day much;", "day law;",
        "stuff a;", "stuff a b;", "stuff 1;", "stuff a 1 2;", "stuff a 1", "mix", "room a;", "monk", "linger;",
        "linger a;", "seed ;", "law;", "law much 1;", "law a 1;", "law or 1;", "law air;", "law air 1", "law air )", "law air ();",
        "law air 1 2;", "law air 1 +;", "law air + 1;", "law air - 1;", "law air 1 + not 2;", "law air 1 < not 2;",
        "law air 1 not 2;", "law air (1;", "law air 1);", "law air not;", "law air 1 < 2 < 3;", "law air 1 = 2 + 3 <> 4;",
        "law air 1 < = 2;", "law air 1 => 2;", "law air 1 =< 2;", "law air 1 <=> 2;", "law air 1 >< 2;", "law air 1 <>= 2;",
        "law air 1 and or 2;", "law air and 1;", "law air foo;", "law air stuff;", "law air 1 , 2;", "law air 1 %;",
        "law air 1 << 2;", "law air (1 < 2) < (3 < 4) > 5;", "law air lastword;", "stuff a -1;", "day a;;", "day a;x", "\u00e4;",
        "day a\t;", "day a;room r 1;monk m r 1", "law air not not;", "law air 2 * not 1;", "law air (1 and 2;", "law air 1 or;"};
    int[] places = {0, 0, 0, 3, 5, 4, 3, 8, 4, 0,
        0, 0, 0, 4, 11, 12, 6, 4, 4,
        7, 8, 6, 10, 9, 3, 6, 4, 6,
        7, 5, 3, 4, 4, 4, 7, 9, 8, 9,
        10, 11, 8, 8, 12, 12,
        10, 10, 9, 11, 14, 18,
        12, 11, 11, 12, 11, 12,
        14, 8, 8, 8, 10, 10,
        11, 26, 8, 8, 6, 6, 0,
        5, 25, 15, 12, 16, 12};
    for (int i = 0; i < texts.length; i++) {
      fault(texts[i], 1, places[i]);
    }
  }

  private static void faultTwo() {
    fault("stuff a 1000;", 2, 8);
    fault("stuff a 99999999999999999999999;", 2, 8);
    fault("stuff a 4294967296;", 2, 8);
    fault("room a 101;", 2, 7);
    fault("room a 1;monk b a 0;", 2, 18);
    fault("room a 1;monk b a 100;", 2, 18);
    fault("day a;stuff s 1;mix a s 0;", 2, 24);
    fault("day a;stuff s 1;mix a s 100;", 2, 24);
    fault("linger 101;", 2, 7);
    fault("seed 100000;", 2, 5);
    fault("law air 10000;", 2, 8);
    fault("law keen 1+10000;", 2, 11);
    fault(many("stuff ", 6, " 1;") + "stuff 7", 2, 60);
    fault(many("day ", 8, ";") + " day", 2, 49);
    fault(many("room ", 6, " 1;") + "room a 1;", 2, 54);
    fault("room r 1;" + many("monk ", 5, " r 1;") + "monk a r 1;", 2, 64);
    String mixes = many("stuff ", 5, " 1;") + many("day ", 5, ";");
    StringBuilder told = new StringBuilder(mixes);
    for (int i = 0; i < 24; i++) {
      told.append("mix ").append((char) ('a' + i / 5)).append(' ').append((char) ('a' + i % 5)).append(" 1;");
    }
    fine(told.toString(), 34);
    fault(told + "mix e e 1;", 2, told.length());
    fault("law air " + "(".repeat(8) + "1" + ")".repeat(8) + "*" + "(".repeat(9) + "1;", 2, 34);
    fine("law air " + "(".repeat(8) + "1" + ")".repeat(8) + "*" + "(".repeat(8) + "1" + ")".repeat(8) + ";", 1);
    String sum = "law air 1" + "+1".repeat(31) + ";";
    SmellAbbey x = Check.abbey(sum + "law keen 1;");
    check.due("64 knots", x.count(5), 64);
    fault(sum + "law keen 1+2;", 2, sum.length() + 10);
    fault("law air (1+2)*3;law keen (((((((((1;", 2, 33);
    fault(sum + "law keen not 2;", 2, sum.length() + 13);
    fault("law air " + "not ".repeat(64) + "1;", 2, 8 + 256);
    fine("law air " + "not ".repeat(63) + "1;", 1);
    fault("law air " + "not ".repeat(65) + "1;", 2, 8 + 256);
    fault(sum + "law keen 1 and not 2;", 2, sum.length() + 11);
    fault(sum + "law keen 1 = 2;", 2, sum.length() + 11);
    fault(sum + "law keen 1;law worth much;", 2, sum.length() + 21);
  }

  private static String many(String ahead, int n, String behind) {
    StringBuilder text = new StringBuilder();
    for (int i = 0; i < n; i++) {
      text.append(ahead).append((char) ('a' + i)).append(behind);
    }
    return text.toString();
  }

  private static void faultThree() {
    fault("stuff a 1;stuff a 1;", 3, 16);
    fault("day a;day b;day a;", 3, 16);
    fault("room a 1;room a 2;", 3, 14);
    fault("room r 1;monk a r 1;monk a r 1;", 3, 25);
    fault("stuff s 1;day a;mix a s 1;mix a s 2;", 3, 32);
    fault("linger 0; linger 0;", 3, 10);
    fault("seed 0;seed 0;", 3, 7);
    fault("law air 1;law air 1;", 3, 14);
    fault("law keen 1;law worth 1;law keen", 3, 27);
  }

  private static void faultFour() {
    fault("stuff s 1;mix a s 1;", 4, 14);
    fault("day a;mix a s 1;", 4, 12);
    fault("day a;stuff b 1;mix b a 1;", 4, 20);
    fault("monk a b 1;room b 1;", 4, 7);
    fault("day a;monk b a 1;", 4, 13);
  }

  private static void firstFaultAlongTheText() {
    fault("stuff a 1000;stuff a b;", 2, 8);
    fault("day a;mix b", 4, 10);
    fault("law air 10000 +", 2, 8);
    fault("seed 100000", 2, 5);
    fault("stuff a 1000@", 2, 8);
    fault("law air " + "1+".repeat(32) + ";", 1, 72);
    fault("law air 1" + "+1".repeat(31) + "+1)", 2, 72);
    fault("law air 1" + "+1".repeat(31) + " 1", 1, 72);
    fault("law air " + "(".repeat(8) + "1(", 1, 17);
  }

  /** A fault's kind and place; and that all stays. */
  private static void fault(String text, int kind, int place) {
    SmellAbbey x = Check.abbey("day told;day here;");
    check.due(text, Check.tell(x, text), -1);
    check.due(text + " fault(0)", x.fault(0), kind);
    check.due(text + " fault(1)", x.fault(1), place);
    check.due(text + " leaves what was told", x.count(1), 2);
  }

  private static void signs() {
    String[] formulas = {"7/2", "0-7/2", "(0-7)/2", "7/(0-2)", "2+3*4", "(2+3)*4", "10-3-2", "100/10/5", "100/10*5",
        "2<3", "3<2", "2<=2", "3<=2", "2=2", "2=3", "2<>3", "2<>2", "3>=3", "2>=3", "3>2", "2>2",
        "not 0", "not 5", "not not 5", "5 and 0", "5 and 3", "0 or 0", "0 or 9", "1 or 0 and 0", "not 1 = 2", "not 1 or 1",
        "1+1=2", "2*3>=5+1 and 1<2", "1<2", "(1<2)<3", "0-1", "0 and 1/0", "1 or 1/0", "1/0", "not (1/0)", "1/0*0", "0/5",
        "1-2+3", "9999*9999*9999", "9999*9999*9999*2", "0-9999*9999*9999*9", "(1=1)+(2=2)",
        "1000*1000*1000*1000", "1000*1000*1000*1000+1", "0-1000*1000*1000*1000", "0-1000*1000*1000*1000-1",
        "1000*1000*1000*1000-1+1", "1000*1000*1000*(0-1000)-1", "1000*1000*1000*1000*(1000*1000*1000*1000)",
        "0*(1000*1000*1000*1000)", "(0-1000*1000)*(0-1000*1000)", "(0-1000*1001)*(0-1000*1000)",
        "(0-1000*1001)*(1000*1000)", "4096*4096*256*(4096*4096*256)", "(0-4096*4096*256)*(4096*4096*256)", "1000*1000*1000*999*1", "1000*1000*1000*1000*1", "1000*1000*1000*1000*(0-1)"};
    long e = Long.MIN_VALUE;
    long cube = 9999L * 9999 * 9999;
    long top = 1000000000000L;
    long[] values = {3, -3, -3, -3, 14, 20, 5, 2, 50,
        1, 0, 1, 0, 1, 0, 1, 0, 1, 0, 1, 0,
        1, 0, 1, 0, 1, 0, 1, 1, 1, 1,
        1, 1, 1, 1, -1, e, e, e, e, e, 0,
        2, cube, e, e, 2,
        top, e, -top, e,
        top, e, e,
        0, top, e,
        e, e, e, 999000000000L, top, -top};
    for (int i = 0; i < formulas.length; i++) {
      SmellAbbey x = Check.abbey("stuff s 5;law worth " + formulas[i] + ";");
      check.due(formulas[i], x.law(2, 0, 0), values[i]);
    }
  }

  /** Promise 5. */
  private static void names() {
    SmellAbbey x = Check.abbey("stuff rose 1;stuff z 2;day rose;day abcdef;day zzzzzz;room z 1;room zz 2;monk rose z 1;monk al zz 2;");
    String[] names = {"rose", "z", "abcdef", "zz", "al", "zzzzzz", "ros", "a"};
    int[][] numbers = {{0, 0, -1, 0}, {1, -1, 0, -1}, {-1, 1, -1, -1}, {-1, -1, 1, -1}, {-1, -1, -1, 1}, {-1, 2, -1, -1},
        {-1, -1, -1, -1}, {-1, -1, -1, -1}};
    for (int i = 0; i < names.length; i++) {
      for (int what = 0; what < 4; what++) {
        check.due("named(" + what + ", " + names[i] + ")", x.named(what, Check.letters(names[i])), numbers[i][what]);
      }
      check.due("named(4, ..)", x.named(4, Check.letters(names[i])), -1);
      check.due("named(-1, ..)", x.named(-1, Check.letters(names[i])), -1);
    }
    check.due("rose by its bits", x.named(0, ((18 * 32 + 15) * 32 + 19) * 32 + 5 << 10), 0);
    check.due("rose at the low end", x.named(0, ((18 * 32 + 15) * 32 + 19) * 32 + 5), -1);
    check.due("no letters", x.named(0, 0), -1);
    check.due("bits above thirty", x.named(0, Check.letters("z") | 1 << 30), -1);
    check.due("negative", x.named(0, Check.letters("z") | 1 << 31), -1);
  }
}
