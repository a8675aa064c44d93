/** Promises 36 to 39: undoing, images, counts. */
public final class UndoTest {
  private static final Check check = new Check("UndoTest");
  private static final String BASE = "stuff clove 20;stuff rose 9;day mon;day tue feast;day wed;mix mon clove 5;"
      + "mix tue rose 4;mix wed clove 5;mix wed rose 4;room choir 100;room crypt 50;monk al choir 4;monk bo crypt 3;linger 50;";

  public static void main(String[] args) {
    undoing();
    twentyAtMost();
    images();
    imagesKeepNoNotes();
    counts();
    check.end();
  }

  /** Promise 36. */
  private static void undoing() {
    SmellAbbey x = Check.abbey(BASE);
    check.due("none", x.undo(), -1);
    x.cold(0, 1, true);
    x.cold(0, 0, true);
    x.cold(0, 1, false);
    x.wind(1, 5);
    x.wind(1, 8);
    x.buy(0, 30);
    x.goes(1, 0);
    x.goes(1, 0);
    x.buy(0, 0);
    check.due("seven", x.count(13), 7);
    check.due("undo goes", x.undo(), 6);
    check.due("back in the crypt", x.monk(1, 0), 1);
    check.due("undo buy", x.undo(), 5);
    check.due("as much as ahead", x.stuff(0, 0), 20);
    check.due("undo wind", x.undo(), 4);
    check.due("the wind ahead", x.stuff(1, 2), 5);
    check.due("undo wind", x.undo(), 3);
    check.due("no wind", x.stuff(1, 2), 0);
    check.due("undo cold", x.undo(), 2);
    check.due("both", x.monk(0, 2), 3);
    check.due("undo cold", x.undo(), 1);
    check.due("one", x.monk(0, 2), 2);
    check.due("go(0) is no morning", x.go(0), 0);
    check.due("one", x.count(13), 1);
    x.go(1);
    check.due("a morning went by", x.count(13), 0);
    check.due("none", x.undo(), -1);
    check.due("the cold stays", x.monk(0, 2), 2);
    x.buy(0, 5);
    check.due("go of none such", x.go(100), -1);
    check.due("undo buy", x.undo(), 0);
    check.due("what is mixed stays out", x.stuff(0, 0), 15);
  }

  private static void twentyAtMost() {
    SmellAbbey x = Check.abbey(BASE);
    for (int i = 1; i <= 25; i++) {
      x.wind(0, i);
      check.due("twenty at most", x.count(13), Math.min(i, 20));
    }
    for (int left = 19; left >= 0; left--) {
      check.due("undo", x.undo(), left);
      check.due("the wind ahead", x.stuff(0, 2), left + 5);
    }
    check.due("no more", x.undo(), -1);
    check.due("the fifth stays", x.stuff(0, 2), 5);
  }

  /** Promises 37 and 38. */
  private static void images() {
    SmellAbbey x = Check.abbey(BASE);
    check.due("no image", x.back(), -1);
    x.go(2);
    x.cold(1, 1, true);
    x.wind(0, 7);
    x.goes(0, 1);
    x.buy(1, 11);
    long[] before = all(x);
    check.due("keep", x.keep(), 2);
    check.due("keeping leaves what can be undone", x.count(13), 4);
    for (int round = 0; round < 2; round++) {
      x.cold(0, 0, true);
      x.wind(1, 9);
      x.go(4);
      x.goes(0, 0);
      x.buy(0, 500);
      check.due("back", x.back(), 2);
      long[] after = all(x);
      for (int i = 0; i < before.length; i++) {
        check.due("as in the image " + i, after[i], before[i]);
      }
      check.due("nothing to undo", x.undo(), -1);
    }
    x.go(1);
    check.due("in place of one ahead", x.keep(), 3);
    x.go(5);
    check.due("back to that", x.back(), 3);
    Check.tell(x, "day;");
    check.due("a fault leaves the image", x.back(), 3);
    Check.tell(x, BASE);
    check.due("a text has none", x.back(), -1);
  }

  private static long[] all(SmellAbbey x) {
    long[] all = new long[30];
    int at = 0;
    for (int what = 6; what <= 10; what++) {
      all[at++] = x.count(what);
    }
    for (int i = 0; i < 2; i++) {
      for (int what = 0; what < 5; what++) {
        all[at++] = x.monk(i, what);
      }
      for (int what = 0; what < 3; what++) {
        all[at++] = x.stuff(i, what);
      }
      all[at++] = x.air(i, 0) * 1000 + x.air(i, 1);
    }
    return all;
  }

  private static void imagesKeepNoNotes() {
    SmellAbbey x = Check.abbey(BASE);
    x.note(1, 0, 0, true);
    x.keep();
    x.note(1, 0, 1, true);
    x.back();
    check.due("notes stay", x.count(11), 2);
    check.due("all known", x.count(12), 2);
    check.due("both count", x.colds(0), 0);
  }

  /** Promise 39. */
  private static void counts() {
    SmellAbbey x = Check.abbey(BASE + "law worth 1+2;law keen nose;");
    int[] first = {2, 3, 2, 2, 4, 4, 0, -1, 0, 0, 29, 0, 0, 0};
    for (int what = 0; what < first.length; what++) {
      check.due("count(" + what + ")", x.count(what), first[what]);
    }
    check.due("count(14)", x.count(14), -1);
    check.due("count(-1)", x.count(-1), -1);
    x.go(2);
    x.note(1, 0, 0, true);
    x.buy(0, 1);
    int[] then = {2, 3, 2, 2, 4, 4, 2, x.count(7), x.count(8), x.count(9), 29 - 9 + 1, 1, 1, 1};
    for (int what = 0; what < then.length; what++) {
      check.due("count(" + what + ")", x.count(what), then[what]);
    }
    check.due("a day was kept", x.count(7) >= 0, true);
  }
}
