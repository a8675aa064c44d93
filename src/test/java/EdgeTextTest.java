/** Promises 1 to 5 and part 1 of the terms: each sentence that names a boundary has a method of its own here. */
public final class EdgeTextTest {
  private static final Check check = new Check("EdgeTextTest");
  private static final String[] WORDS = {"stuff", "day", "mix", "room", "monk", "linger", "seed", "law", "feast", "air", "keen", "worth", "or", "and",
      "not", "much", "part", "left", "wind", "date", "place", "nose"};
  private static final String[] SIGNS = {"<", "<=", "=", "<>", ">=", ">", "+", "-", "*", "/", " and ", " or "};
  private static final String HOUSE = "stuff s 50;day a;day b feast;mix a s 9;room r 100;room q 50;monk m r 3;linger 50;law worth 7;";

  public static void main(String[] args) {
    newObject();
    feedUpToSevenHundred();
    feedPutsTheHighestFirst();
    textOfTheFirstBytes();
    textThatIsNone();
    textWithAFault();
    textBeginsAnew();
    faultOfTheLatestText();
    namesByLetters();
    namesOfTheirKind();
    wordsOfOneToSixLetters();
    wordsOfTheLanguage();
    blanks();
    bytesThatAreNone();
    numbersUpToTheirBounds();
    numbersOfManyDigits();
    asManyAsThereMayBe();
    ninthBracket();
    sixtyFifthKnot();
    nothingIsLeftOfABrokenE();
    knotsOneEach();
    signsOfTwo();
    oneComparison();
    moreMustCome();
    theFirstAlongTheText();
    theLeastOfOnePlace();
    toldAlready();
    notToldAhead();
    check.end();
  }

  private static void fine(String text, int lines) {
    SmellAbbey x = new SmellAbbey();
    check.due(text, Check.tell(x, text), lines);
    check.due(text + " fault(0)", x.fault(0), 0);
    check.due(text + " fault(1)", x.fault(1), -1);
  }

  private static void fault(String text, int kind, int place) {
    SmellAbbey x = new SmellAbbey();
    check.due(text, Check.tell(x, text), -1);
    check.due(text + " fault(0)", x.fault(0), kind);
    check.due(text + " fault(1)", x.fault(1), place);
  }

  private static String many(String ahead, int n, String behind) {
    StringBuilder text = new StringBuilder();
    for (int i = 0; i < n; i++) {
      text.append(ahead).append((char) ('a' + i)).append(behind);
    }
    return text.toString();
  }

  /** Promise 1: a text without lines; an empty tape. */
  private static void newObject() {
    SmellAbbey x = new SmellAbbey();
    for (int what = 0; what <= 13; what++) {
      check.due("count(" + what + ") of a new one", x.count(what), what == 7 ? -1 : 0);
    }
    check.due("text(1): the tape is empty", x.text(1), -2);
    check.due("named", x.named(0, Check.letters("a")), -1);
    check.due("stuff", x.stuff(0, 0), -1);
    check.due("mix", x.mix(0, 0), -1);
    check.due("feast", x.feast(0), -1);
    check.due("air", x.air(0, 0), -1);
    check.due("mark", x.mark(0, 0), -1);
    for (int what = 0; what < 3; what++) {
      check.due("law " + what, x.law(what, 0, 0), Long.MIN_VALUE);
    }
    check.due("cold", x.cold(0, 0, true), false);
    check.due("cold, no more", x.cold(0, 0, false), false);
    check.due("wind", x.wind(0, 1), false);
    check.due("buy", x.buy(0, 1), -1);
    check.due("goes", x.goes(0, 0), false);
    long[] nones = {x.mixedUp(0), x.pair(0, 0), x.mending(0, 0, 1, 0), x.placeTo(0, 0), x.needs(0, 0), x.dearest(0), x.dearest(1), x.inPlace(0, 1),
        x.letter(0, 0, 0), x.rests(1), x.rest(1, 0), x.note(1, 0, 0, true), x.out(0), x.colds(0), x.chance(0, 1, 0), x.tried(3, 0, 1), x.undo(),
        x.back()};
    for (int i = 0; i < nones.length; i++) {
      check.due("of a new one nothing can be asked, " + i, nones[i], -1);
    }
    check.due("known(0)", x.known(0), true);
    check.due("known(1)", x.known(1), false);
    for (int what = 0; what <= 5; what++) {
      check.due("tried(" + what + ")", x.tried(what, 0, 99), what == 3 ? -1 : 0);
    }
    check.due("lasts(0)", x.lasts(0), 200);
    check.due("lasts(1)", x.lasts(1), -2);
    check.due("firstWrong", x.firstWrong(99), -2);
    check.due("keep", x.keep(), 0);
    check.due("go", x.go(99), 99);
    check.due("back", x.back(), 0);
  }

  /** Promise 2: NONE, and none come, if it would have more than 700. */
  private static void feedUpToSevenHundred() {
    SmellAbbey x = new SmellAbbey();
    for (int fed = 20; fed <= 680; fed += 20) {
      check.due("feed", x.feed(0x20202020, 0x20202020, 0x20202020, 0x20202020, 0x20202020), fed);
    }
    check.due("the last twenty", x.feed(0x64617920, 0x613b6461, 0x7920623b, 0x64617920, 0x633b0a20), 700);
    check.due("more than 700", x.feed(0x40404040, 0x40404040, 0x40404040, 0x40404040, 0x40404040), -1);
    check.due("more than 700, again", x.feed(0, 0, 0, 0, 0), -1);
    check.due("none came: text(701)", x.text(701), -2);
    check.due("nor did any go", x.feed(0, 0, 0, 0, 0), -1);
    check.due("all 700 are as they were fed", x.text(700), 3);
    check.due("then there is place again", x.feed(0, 0, 0, 0, 0), 20);
  }

  /** Promise 2: four of each number, the highest first. */
  private static void feedPutsTheHighestFirst() {
    String signs = "day abcdef;day ghijk";
    for (int at = 8; at < 29; at++) {
      SmellAbbey x = new SmellAbbey();
      byte[] bytes = Check.bytes("law air 1+2-3*4/5+6-7*8/9+0+1;");
      bytes[at] = (byte) 0x80;
      Check.feedAll(x, bytes);
      check.due("a byte that is none at " + at, x.text(30), -1);
      check.due("its place", x.fault(1), at);
    }
    SmellAbbey x = new SmellAbbey();
    Check.feedAll(x, Check.bytes(signs + ";day l;"));
    check.due("all twenty, then the next", x.text(27), 3);
    check.due("abcdef", x.named(1, Check.letters("abcdef")), 0);
    check.due("ghijk", x.named(1, Check.letters("ghijk")), 1);
  }

  /** Promise 3: the tape's first n bytes (it is empty then). */
  private static void textOfTheFirstBytes() {
    SmellAbbey x = new SmellAbbey();
    String text = "day a;day b;day c;@@";
    int[] lines = {0, -1, -1, -1, -1, -1, 1, -1, -1, -1, -1, -1, 2, -1, -1, -1, -1, -1, 3, -1, -1};
    for (int n = 0; n <= 20; n++) {
      check.due("feed ahead of text(" + n + ")", Check.feedAll(x, Check.bytes(text)), 20);
      check.due("text(" + n + ")", x.text(n), lines[n]);
      check.due("it is empty then", x.text(1), -2);
    }
    x.feed(0, 0, 0, 0, 0);
    check.due("text(0) of a tape", x.text(0), 0);
    check.due("empties it, too", x.text(1), -2);
    check.due("no days are left", x.count(1), 0);
    check.due("text(0) of an empty tape", x.text(0), 0);
    check.due("without a fault", x.fault(0), 0);
  }

  /** Promise 3: -2, and the tape stays: there are not so many, n is below 0. */
  private static void textThatIsNone() {
    SmellAbbey x = Check.abbey(HOUSE);
    Check.tell(x, "day a;@");
    x.go(1);
    x.wind(0, 5);
    String seen = Look.at(x);
    Check.feedAll(x, Check.bytes("day a;day b;day c;  day d;"));
    int[] none = {41, 42, 700, 701, Integer.MAX_VALUE, -1, -2, -20, Integer.MIN_VALUE};
    for (int n : none) {
      check.due("text(" + n + ") with 40 on the tape", x.text(n), -2);
    }
    check.due("all stays, the fault, too", Look.at(x), seen);
    check.due("the tape stays", x.text(40), 4);
  }

  /** Promise 3: NONE with a fault, all stays. */
  private static void textWithAFault() {
    String[] faulty = {"@", "day", "stuff a 1000;", "day a;day a;", "mix a a 1;", "law air 1;law keen 2;law worth 3+;"};
    SmellAbbey x = stirred();
    for (String text : faulty) {
      check.due(text, Check.tell(x, text), -1);
      check.due("but the tape is empty", x.text(1), -2);
    }
    check.due("without a fault again", Check.tell(x, "") >= 0, true);
    SmellAbbey y = stirred();
    for (String text : faulty) {
      Check.tell(y, text);
      check.due("something else is its fault", y.fault(0) > 0, true);
    }
    SmellAbbey z = stirred();
    Check.tell(z, faulty[5]);
    check.due("all stays", Look.last(y), Look.last(z));
    check.due("as without any but for the fault", withoutFault(faulted()), withoutFault(stirred()));
  }

  private static String withoutFault(SmellAbbey x) {
    return Look.last(x).replaceAll("\\|\\S+ \\S+\\|", "||");
  }

  private static SmellAbbey faulted() {
    SmellAbbey x = stirred();
    Check.tell(x, "day a;room r 5;monk m r 9;law worth 9;@");
    return x;
  }

  /** Something of everything that can change. */
  private static SmellAbbey stirred() {
    SmellAbbey x = Check.abbey(HOUSE);
    x.go(1);
    x.keep();
    x.wind(0, 9);
    x.go(2);
    x.cold(0, 0, true);
    x.wind(0, 5);
    x.buy(0, 7);
    x.goes(0, 1);
    x.note(2, 0, 1, true);
    x.note(3, 0, 1, true);
    x.out(0);
    x.known(2);
    return x;
  }

  /** Promise 3: date 0, air 0, no colds, no winds, no notes, all known, no image, nothing to undo then. */
  private static void textBeginsAnew() {
    SmellAbbey x = stirred();
    check.due("the same text", Check.tell(x, HOUSE), 9);
    check.due("is as of a new one", Look.last(x), Look.last(Check.abbey(HOUSE)));
    SmellAbbey y = stirred();
    Check.tell(y, HOUSE);
    y.note(1, 0, 1, true);
    check.due("all are known, those to come, too", y.count(12), 1);
    y.go(3);
    SmellAbbey z = Check.abbey(HOUSE);
    z.note(1, 0, 1, true);
    z.go(3);
    check.due("and goes on like a new one", Look.last(y), Look.last(z));
  }

  /** Promise 4: of the latest text() that was not -2: its fault (0), its place (NONE without). */
  private static void faultOfTheLatestText() {
    SmellAbbey x = new SmellAbbey();
    check.due("ahead of any", x.fault(0), 0);
    check.due("ahead of any, its place", x.fault(1), -1);
    x.text(5);
    check.due("-2 has none", x.fault(0), 0);
    Check.tell(x, "room r 101;");
    check.due("a fault", x.fault(0) * 100 + x.fault(1), 207);
    x.text(99);
    x.text(-1);
    check.due("-2 leaves it", x.fault(0) * 100 + x.fault(1), 207);
    Check.tell(x, ";");
    check.due("a fault at 0", x.fault(0) * 100 + x.fault(1), 100);
    Check.tell(x, "day a;");
    check.due("none", x.fault(0), 0);
    check.due("none, its place", x.fault(1), -1);
  }

  /** Promise 5: five bits each, the first one highest of six, 0 behind the last one. */
  private static void namesByLetters() {
    SmellAbbey x = Check.abbey("day a;day z;day aaaaaa;day zzzzzz;day ab;day b;");
    int[] letters = {1 << 25, 26 << 25, 0x2108421, Check.letters("zzzzzz"), 1 << 25 | 2 << 20, 2 << 25};
    check.due("aaaaaa", letters[2], Check.letters("aaaaaa"));
    for (int i = 0; i < letters.length; i++) {
      check.due("the " + i + "th", x.named(1, letters[i]), i);
      check.due("with a bit above", x.named(1, letters[i] | 1 << 30), -1);
      check.due("with the sign's bit", x.named(1, letters[i] | 1 << 31), -1);
      check.due("with one more", x.named(1, letters[i] + 1), -1);
      check.due("with one less", x.named(1, letters[i] - 1), -1);
    }
    int[] none = {0, -1, 1, 26, 1 << 20, Integer.MAX_VALUE, Integer.MIN_VALUE, 27 << 25, 31 << 25};
    for (int letter : none) {
      check.due("no such name " + letter, x.named(1, letter), -1);
    }
    check.due("a letter behind none", x.named(1, 1 << 25 | 1 << 15), -1);
  }

  /** Stuffs, days, rooms, monks have names of their kind. */
  private static void namesOfTheirKind() {
    SmellAbbey x = Check.abbey("stuff a 1;day b;day a;room c 1;room d 1;room a 1;monk e a 1;monk f a 1;monk g a 1;monk a a 1;");
    for (int what = 0; what <= 3; what++) {
      check.due("a of kind " + what, x.named(what, Check.letters("a")), what);
    }
    check.due("b is no stuff", x.named(0, Check.letters("b")), -1);
    check.due("c is no day", x.named(1, Check.letters("c")), -1);
    check.due("e is no room", x.named(2, Check.letters("e")), -1);
    check.due("c is no monk", x.named(3, Check.letters("c")), -1);
  }

  /** W: one of 1 .. 6 letters; a word of more than 6 letters is no token. */
  private static void wordsOfOneToSixLetters() {
    fine("day a;", 1);
    fine("day z;", 1);
    fine("day zzzzzz;", 1);
    fault("day zzzzzzz;", 1, 4);
    fault("day " + "a".repeat(13) + ";", 1, 4);
    fault("day " + "a".repeat(690) + ";", 1, 4);
    fault("lingers 5;", 1, 0);
    fault("abcdefg", 1, 0);
    fault("law air lingers;", 1, 8);
    fault("room r 1;monk abcdefg r 1;", 1, 14);
    fault("room r 1;monk m abcdefg 1;", 1, 16);
    fault("day a;mix abcdefg a 1;", 1, 10);
    // seven letters of which the last six are a name that is told
    fault("day bcdefg;stuff s 1;mix abcdefg s 1;", 1, 25);
    fault("stuff bcdefg 1;day d;mix d abcdefg 1;", 1, 27);
  }

  /** W: none of those of the language. */
  private static void wordsOfTheLanguage() {
    for (String word : WORDS) {
      fault("stuff " + word + " 1;", 1, 6);
      fault("day " + word + ";", 1, 4);
      fault("room " + word + " 1;", 1, 5);
      fault("room r 1;monk " + word + " r 1;", 1, 14);
      fault("room r 1;monk m " + word + " 1;", 1, 16);
      fault("mix " + word, 1, 4);
      fault("day a;mix a " + word, 1, 12);
      fine("day " + word.charAt(0) + ";day x" + word.substring(1) + ";", 2);
    }
    for (int i = 8; i < WORDS.length; i++) {
      fault(WORDS[i] + ";", 1, 0);
    }
  }

  /** Blanks 10, 32: anywhere between tokens, and nowhere needed but between two words or two numbers. */
  private static void blanks() {
    fine("\n \n", 0);
    fine("\n day \n\n a  feast \n;\n\n", 1);
    fine("room r5;monk m r7;law keen(much)and(5)or not(6);", 3);
    fine("law air 5and 6or 7;", 1);
    fault("daya;", 1, 0);
    fault("law air 1 0;", 1, 10);
    fault("linger 1 0;", 1, 9);
    fault("da y a;", 1, 0);
  }

  /** A token that is none: every other byte. */
  private static void bytesThatAreNone() {
    for (int sign = 0; sign < 256; sign++) {
      boolean isBlank = sign == 10 || sign == 32;
      boolean isKnown = sign >= 'a' && sign <= 'z' || sign >= '0' && sign <= '9' || "<=>+-*/();".indexOf(sign) >= 0;
      String text = "day a" + (char) sign + ";";
      if (isBlank) {
        fine(text, 1);
      } else if (sign == ';') {
        fault(text, 1, 6);
      } else if (sign >= 'a' && sign <= 'z') {
        fine(text, 1);
      } else {
        fault(text, 1, 5);
      }
      if (!isBlank && !isKnown) {
        fault((char) sign + "", 1, 0);
        fault("day a;" + (char) sign + "day b;", 1, 6);
        fault("law air 1" + (char) sign + "+2;", 1, 9);
      }
    }
  }

  /** A number beyond what is said, at both of its ends. */
  private static void numbersUpToTheirBounds() {
    bounds("stuff s ", 0, 999);
    bounds("day d;stuff s 1;mix d s ", 1, 99);
    bounds("room r ", 0, 100);
    bounds("room r 1;monk m r ", 1, 99);
    bounds("linger ", 0, 100);
    bounds("seed ", 0, 99999);
    bounds("law air ", 0, 9999);
    bounds("law keen 1+2*", 0, 9999);
    bounds("law worth (not ", 0, 9999, ")");
  }

  private static void bounds(String ahead, int least, int most) {
    bounds(ahead, least, most, "");
  }

  private static void bounds(String ahead, int least, int most, String behind) {
    int lines = 0;
    for (int i = 0; i < ahead.length(); i++) {
      lines += ahead.charAt(i) == ';' ? 1 : 0;
    }
    fine(ahead + least + behind + ";", lines + 1);
    fine(ahead + most + behind + ";", lines + 1);
    fault(ahead + (most + 1) + behind + ";", 2, ahead.length());
    fault(ahead + (most + 1), 2, ahead.length());
    fault(ahead + "4294967296" + behind + ";", 2, ahead.length());
    fault(ahead + "4294967297" + behind + ";", 2, ahead.length());
    fault(ahead + "18446744073709551617" + behind + ";", 2, ahead.length());
    if (least > 0) {
      fault(ahead + (least - 1) + behind + ";", 2, ahead.length());
      fault(ahead + "000" + behind + ";", 2, ahead.length());
    }
    fault(ahead + "-" + most + behind + ";", 1, ahead.length());
  }

  /** N: digits, as many as there are. */
  private static void numbersOfManyDigits() {
    SmellAbbey x = Check.abbey("stuff s " + "0".repeat(400) + "7;stuff t 0000000000;");
    check.due("zeros ahead of 7", x.stuff(0, 0), 7);
    check.due("zeros", x.stuff(1, 0), 0);
    fault("stuff s 1" + "0".repeat(600) + ";", 2, 8);
    fault("stuff s " + "9".repeat(692), 2, 8);
  }

  /** Stuffs, at most 6, days 8, mixes 24, rooms 6, monks 5: one more is too much at the word of its line. */
  private static void asManyAsThereMayBe() {
    oneTooMany("", "stuff ", 6, " 1;", 0);
    oneTooMany("", "day ", 8, ";", 1);
    oneTooMany("", "day ", 8, " feast;", 1);
    oneTooMany("", "room ", 6, " 1;", 2);
    oneTooMany("room r 1;", "monk ", 5, " r 1;", 3);
    StringBuilder mixes = new StringBuilder(many("stuff ", 4, " 1;") + many("day ", 7, ";"));
    for (int i = 0; i < 24; i++) {
      mixes.append("mix ").append((char) ('a' + i / 4)).append(' ').append((char) ('a' + i % 4)).append(" 1;");
    }
    SmellAbbey x = new SmellAbbey();
    check.due("24 mixes", Check.tell(x, mixes.toString()), 35);
    check.due("count(4)", x.count(4), 24);
    fault(mixes + "mix g a 1;", 2, mixes.length());
    fault(mixes + "mix a a 1;", 2, mixes.length());
    fault(mixes + "mix nobody", 2, mixes.length());
    fault(mixes + " mix", 2, mixes.length() + 1);
    fine(mixes + "day h;", 36);
  }

  private static void oneTooMany(String ahead, String word, int most, String behind, int what) {
    String full = ahead + many(word, most, behind);
    SmellAbbey x = new SmellAbbey();
    check.due(full, Check.tell(x, full), most + (ahead.isEmpty() ? 0 : 1));
    check.due(full + " count", x.count(what), most);
    fault(full + word + "z" + behind, 2, full.length());
    fault(full + word.trim(), 2, full.length());
    fault(full + word + "a" + behind, 2, full.length());
    fault(full + "\n" + word + "@", 2, full.length() + 1);
  }

  /** A ninth '(' open. */
  private static void ninthBracket() {
    String open = "(".repeat(8);
    String close = ")".repeat(8);
    fine("law air " + open + "1" + close + ";", 1);
    fault("law air " + open + "(1" + close + ");", 2, 16);
    fault("law air " + open + "(", 2, 16);
    fine("law air " + open + "1" + close + "+" + open + "1" + close + ";law keen " + open + "1" + close + ";", 2);
    fault("law air " + open + "1)+(1)+((1" + close + ";", 2, 24);
    fine("law air " + open + "1)+(1)+(1" + close + ";", 1);
    fault("law air not " + open + "not (1", 2, 24);
    SmellAbbey x = new SmellAbbey();
    Check.tell(x, "law air " + open + "@");
    check.due("brackets left open by a fault do not count", Check.tell(x, "law air " + open + "1" + close + ";"), 1);
  }

  /** A 65th knot of all E, whatever it is. */
  private static void sixtyFifthKnot() {
    String sum = "law air 1" + "+1".repeat(31);
    SmellAbbey x = Check.abbey(sum + ";law keen 1;");
    check.due("64", x.count(5), 64);
    for (String sign : SIGNS) {
      String text = sum + ";law keen 2" + sign + "1;";
      fault(text, 2, sum.length() + 11 + (sign.charAt(0) == ' ' ? 1 : 0));
    }
    for (int i = 15; i < WORDS.length; i++) {
      fault(sum + ";law keen 1;law worth " + WORDS[i] + ";", 2, sum.length() + 22);
    }
    fault(sum + ";law keen 1;law worth 9;", 2, sum.length() + 22);
    fault(sum + ";law keen 1;law worth not 9;", 2, sum.length() + 22);
    fault(sum + ";law keen 1;law worth (9);", 2, sum.length() + 23);
    fault(sum + "+1;", 2, sum.length() + 1);
    fine(sum + ";law keen ((1));", 2);
    fine("law air not 1" + "+1".repeat(31) + ";", 1);
    fault("law air not 1" + "+1".repeat(31) + ";law keen 1;", 2, 12 + 63 + 10);
    fine("law air " + "not ".repeat(63) + "1;", 1);
    fault("law air " + "not ".repeat(64) + "1;", 2, 264);
    fault("law air " + "not ".repeat(65) + "1;", 2, 264);
    SmellAbbey y = new SmellAbbey();
    Check.tell(y, sum + "+1;");
    check.due("knots of a text with a fault do not count", Check.tell(y, sum + ";law keen 1;"), 2);
    SmellAbbey z = Check.abbey("stuff s 5;room r 1;monk m r 7;" + sum + ";law worth much;");
    check.due("the first of 64 counts", z.law(0, 0, 0), 32);
    check.due("and the last", z.law(2, 0, 0), 5);
  }

  /** What a fault breaks off in the midst of an E is no part of the next text's. */
  private static void nothingIsLeftOfABrokenE() {
    String[] broken = {"law keen not ", "law keen not not not 1@", "law keen 1+", "law keen 1 or not (1*", "law keen ((((((((", "law keen 1 and 2 = 3 +"};
    SmellAbbey x = new SmellAbbey();
    for (String text : broken) {
      for (int i = 0; i < 12; i++) {
        check.due(text, Check.tell(x, text), -1);
      }
      check.due("then one without a fault", Check.tell(x, "stuff s 5;law worth much+2;"), 2);
      check.due("is as if there had been none", x.law(2, 0, 0), 7);
      check.due("likewise its knots", x.count(5), 3);
    }
  }

  /** N, NAMES, signs, not, and, or: one each; brackets none. */
  private static void knotsOneEach() {
    knots("1", 1);
    knots("much", 1);
    knots("((1))", 1);
    knots("not 1", 2);
    knots("not not not 1", 4);
    for (String sign : SIGNS) {
      knots("1" + sign + "nose", 3);
    }
    check.due("of all laws", Check.abbey("law air 1+1;law worth not much;law keen (place);").count(5), 6);
    check.due("without laws", Check.abbey("day a;").count(5), 0);
  }

  private static void knots(String formula, int knots) {
    check.due(formula + " has knots", Check.abbey("law air " + formula + ";").count(5), knots);
  }

  /** A = (or > behind <) right behind < or > belongs to it. */
  private static void signsOfTwo() {
    fine("law air 1<=2;", 1);
    fine("law air 1<>2;", 1);
    fine("law air 1>=2;", 1);
    fault("law air 1< =2;", 1, 11);
    fault("law air 1<\n>2;", 1, 11);
    fault("law air 1> =2;", 1, 11);
    fault("law air 1=>2;", 1, 10);
    fault("law air 1=<2;", 1, 10);
    fault("law air 1==2;", 1, 10);
    fault("law air 1><2;", 1, 10);
    fault("law air 1>>2;", 1, 10);
    fault("law air 1<<2;", 1, 10);
    fault("law air 1<>=2;", 1, 11);
    fault("law air 1<=>2;", 1, 11);
    fault("law air 1<==2;", 1, 11);
    fault("law air 1>==2;", 1, 11);
    SmellAbbey x = new SmellAbbey();
    Check.feedAll(x, Check.bytes("law air 1<=2;"));
    check.due("the = lies behind the text", x.text(10), -1);
    check.due("so more must come", x.fault(1), 10);
  }

  /** C: S [ one comparison S ]; B: not B | C. */
  private static void oneComparison() {
    String[] comparing = {"<", "<=", "=", "<>", ">=", ">"};
    for (String one : comparing) {
      for (String other : comparing) {
        fault("law air 1" + one + "2" + other + "3;", 1, 10 + one.length());
        fault("law air 1" + one + "2+3*4" + other + "3;", 1, 14 + one.length());
        fine("law air 1" + one + "2 and 3" + other + "4 or 5" + one + "6;", 1);
        fine("law air (1" + one + "2)" + other + "3;", 1);
        fine("law air 1" + one + "(2" + other + "3);", 1);
      }
      fault("law air 1" + one + "not 2;", 1, 9 + one.length());
      fine("law air 1" + one + "(not 2);", 1);
      fine("law air not 1" + one + "2;", 1);
    }
    for (String sign : new String[] {"+", "-", "*", "/"}) {
      fault("law air 1" + sign + "not 2;", 1, 10);
      fault("law air " + sign + "1;", 1, 8);
      fault("law air 1" + sign + ";", 1, 10);
      fault("law air (1" + sign + ");", 1, 11);
    }
    check.due("or in brackets", Check.abbey("stuff s 1;law worth (0 or 5)*7;").law(2, 0, 0), 7);
    check.due("and in brackets", Check.abbey("stuff s 1;law worth (2 and 5)*7;").law(2, 0, 0), 7);
    check.due("not in brackets", Check.abbey("stuff s 1;law worth 7*(not 0)+1;").law(2, 0, 0), 8);
    check.due("or of or in brackets", Check.abbey("stuff s 1;law worth ((0 or 0) or (1 or 0))+(not 1 or 1);").law(2, 0, 0), 2);
  }

  /** The length, if more must come: a text cut behind any token of a line, with blanks behind it or without. */
  private static void moreMustCome() {
    String ahead = "stuff s 1;day d;room r 1;";
    String[] lines = {"stuff t 1 ;", "day e feast ;", "day e ;", "mix d s 1 ;", "room q 1 ;", "monk m r 1 ;", "linger 1 ;", "seed 1 ;",
        "law air ( not much + 1 ) * 2 < 3 and 4 or 5 ;"};
    for (String line : lines) {
      String[] tokens = line.split(" ");
      StringBuilder cut = new StringBuilder(ahead);
      for (int i = 0; i < tokens.length; i++) {
        cut.append(tokens[i]);
        if (i < tokens.length - 1) {
          fault(cut.toString(), 1, cut.length());
          fault(cut + " \n", 1, cut.length() + 2);
        } else {
          fine(cut.toString(), 4);
          fine(cut + "\n ", 4);
        }
        cut.append(' ');
      }
    }
    String full = "law air 1" + " ".repeat(691);
    fault(full, 1, 700);
  }

  /** Faults, the first along the text. */
  private static void theFirstAlongTheText() {
    String[] faulty = {"@;", "stuff s 1000;", "linger 1;linger 2;", "mix x y 1;"};
    int[] kinds = {1, 2, 3, 4};
    int[] places = {0, 8, 9, 4};
    for (int i = 0; i < faulty.length; i++) {
      for (String behind : faulty) {
        fault("day a;" + faulty[i] + behind, kinds[i], 6 + places[i]);
      }
    }
    fault("stuff s 1000", 2, 8);
    fault("day a;day a", 3, 10);
    fault("day a;mix a s 1000", 4, 12);
    fault("stuff s 1;day a;mix a s 1;mix a s 1000;", 3, 32);
    fault("room r 1;monk m q 0;", 4, 16);
  }

  /** Of one place the least. */
  private static void theLeastOfOnePlace() {
    String sum = "law air 1" + "+1".repeat(31) + ";law keen 1";
    fault(sum + " 1;", 1, sum.length() + 1);
    fault(sum + " not 1;", 1, sum.length() + 1);
    fault(sum + "<1;", 2, sum.length());
    fault("law air 1<2" + "+1".repeat(30) + ";law keen 1" + "<2;", 2, 11 + 60 + 11);
    fault("law air 1" + "+1".repeat(30) + "<2<3;", 1, 8 + 61 + 2);
    fault("law air " + "(".repeat(8) + "1(2;", 1, 17);
    fault("law air 1 10000;", 1, 10);
    fault("law air +;", 1, 8);
    fault("day 1000;", 1, 4);
    fault("linger linger 1;", 1, 7);
    fault("linger 1;day linger;", 1, 13);
    fault("law air 1;law air air;", 3, 14);
    fault(many("stuff ", 6, " 1;") + "day stuff;", 1, 64);
    fault(many("stuff ", 6, " 1;") + "stuff stuff;", 2, 60);
  }

  /** Told already: a name of its kind, a mix of the same two, linger, seed, a law of its rule. */
  private static void toldAlready() {
    fault("stuff a 1;stuff a 1;", 3, 16);
    fault("stuff abcdef 1;stuff abcdeg 1;stuff abcdef 2;", 3, 36);
    fault("day a;day a;", 3, 10);
    fault("day a feast;day a;", 3, 16);
    fault("room a 1;room a 1;", 3, 14);
    fault("room a 1;monk a a 1;monk a a 1;", 3, 25);
    fine("stuff a 1;day a;room a 1;monk a a 1;mix a a 1;", 5);
    fault("stuff a 1;stuff b 1;day c;day d;mix c a 1;mix c b 1;mix d a 1;mix d b 1;mix d a 1;", 3, 78);
    fault("stuff a 1;day a;mix a a 1;mix a a 1;", 3, 32);
    fault("linger 0;linger 0;", 3, 9);
    fault("seed 0;linger 0;seed 0;", 3, 16);
    fine("linger 0;seed 0;", 2);
    String[] rules = {"air", "keen", "worth"};
    for (String rule : rules) {
      fault("law air 1;law keen 1;law worth 1;law " + rule + " 1;", 3, 37);
      fault("law " + rule + " 1;law " + rule, 3, 11 + rule.length());
    }
    SmellAbbey x = Check.abbey("stuff a 1;day b;room c 1;monk d c 1;mix b a 1;linger 1;seed 1;law air 1;law keen 1;law worth 1;");
    check.due("what an earlier text told is not told", Check.tell(x,
        "stuff a 1;day b;room c 1;monk d c 1;mix b a 1;linger 1;seed 1;law air 1;law keen 1;law worth 1;"), 10);
    Check.tell(x, "stuff e 1;day f;linger 2;seed 3;law air 1;mix f e 1;@");
    check.due("nor what one with a fault told", Check.tell(x, "stuff e 1;day f;linger 2;seed 3;law air 1;mix f e 1;"), 6);
  }

  /** A day, a stuff, a room that isn't told ahead. */
  private static void notToldAhead() {
    fault("mix a s 1;day a;stuff s 1;", 4, 4);
    fault("day a;mix a s 1;stuff s 1;", 4, 12);
    fault("stuff s 1;mix a s 1;day a;", 4, 14);
    fault("monk m r 1;room r 1;", 4, 7);
    fault("stuff a 1;day s;mix a s 1;", 4, 20);
    fault("day a;room s 1;mix a s 1;", 4, 21);
    fault("stuff r 1;day r;monk m r 1;", 4, 23);
    fault("monk m m 1;", 4, 7);
    fault("room r 1;monk m r 1;monk n m 1;", 4, 27);
    SmellAbbey x = Check.abbey("day a;stuff s 1;room r 1;");
    check.due("what an earlier text told", Check.tell(x, "mix a s 1;"), -1);
    check.due("isn't told", x.fault(0), 4);
    check.due("nor its rooms", Check.tell(x, "monk m r 1;"), -1);
    check.due("isn't told", x.fault(1), 7);
  }
}
