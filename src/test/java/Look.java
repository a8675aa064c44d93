/** All that can be seen of an abbey, as one text, so that a refused call or a question can be shown to leave it as it was. */
final class Look {
  private Look() {
  }

  /** By calls that change nothing; some eighty of them for a house of two of each. */
  static String at(SmellAbbey x) {
    StringBuilder seen = new StringBuilder();
    for (int what = 0; what <= 13; what++) {
      seen.append(x.count(what)).append(' ');
    }
    seen.append('|').append(x.fault(0)).append(' ').append(x.fault(1)).append('|');
    for (int stuff = 0; stuff < x.count(0); stuff++) {
      for (int what = 0; what <= 2; what++) {
        seen.append(x.stuff(stuff, what)).append(' ');
      }
      for (int room = 0; room < x.count(2); room++) {
        seen.append(x.air(room, stuff)).append(' ').append(x.law(0, room, stuff)).append(' ');
      }
    }
    seen.append('|');
    for (int day = 0; day < x.count(1); day++) {
      seen.append(x.feast(day)).append(' ');
      for (int stuff = 0; stuff < x.count(0); stuff++) {
        seen.append(x.mix(day, stuff)).append(' ');
      }
    }
    seen.append('|');
    for (int monk = 0; monk < x.count(3); monk++) {
      for (int what = 0; what <= 4; what++) {
        seen.append(x.monk(monk, what)).append(' ');
      }
      seen.append(x.law(1, monk, 0)).append(' ').append(x.colds(monk)).append(' ');
    }
    return seen.toString();
  }

  /** What is to be seen now, what is left of the tape, what can be undone and what the image has: the last look at an abbey. */
  static String last(SmellAbbey x) {
    StringBuilder seen = new StringBuilder(at(x));
    seen.append("|tape ").append(x.feed(0, 0, 0, 0, 0));
    for (int i = 0; i < 3; i++) {
      seen.append("|undo ").append(x.undo()).append(' ').append(x.count(10)).append(' ').append(x.count(13));
      for (int monk = 0; monk < x.count(3); monk++) {
        seen.append(' ').append(x.monk(monk, 0)).append(' ').append(x.monk(monk, 2));
      }
      for (int stuff = 0; stuff < x.count(0); stuff++) {
        seen.append(' ').append(x.stuff(stuff, 2));
      }
    }
    return seen.append("|back ").append(x.back()).append('|').append(at(x)).toString();
  }
}
