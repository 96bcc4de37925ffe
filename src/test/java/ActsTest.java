/** Promises 27 to 29: acts undone, sittings kept, counts. */
public final class ActsTest {
  private static final String TEXT = "town a;judge j a 600 civil;judge k a 600 civil;"
      + "case p a civil 0 10;case q a civil 0 20;case r a civil 0 40;";

  public static void main(String[] args) {
    undo();
    onlyTheLastTwelve();
    refusedCallsAreNoActs();
    keeps();
    keepsOutlastActs();
    keepOthers();
    counts();
    Check.end();
  }

  private static void undo() {
    SisterCourts x = Check.told(TEXT);
    Check.due("none can be", x.undo(), -1);
    x.set(0, 0, 1);
    x.set(1, 0, 2);
    x.clear(0);
    x.go(3, 4);
    x.even(9);
    x.take(5, 5);
    Check.due("count(4)", x.count(4), 6);
    Check.due("count(3)", x.count(3), 3);
    Check.due("undo take", x.undo(), 5);
    Check.due("undo even", x.undo(), 4);
    Check.due("undo go", x.undo(), 3);
    Check.due("count(3)", x.count(3), 1);
    Check.due("file(0, 5)", x.file(0, 5), -1);
    Check.due("undo clear", x.undo(), 2);
    Check.due("file(0, 5)", x.file(0, 5), 0);
    Check.due("file(0, 6)", x.file(0, 6), 1);
    Check.due("undo set", x.undo(), 1);
    Check.due("file(1, 6)", x.file(1, 6), -1);
    Check.due("another act", x.set(2, 1, 7), true);
    Check.due("count(4)", x.count(4), 2);
    Check.due("undo set", x.undo(), 1);
    Check.due("undo set", x.undo(), 0);
    Check.due("count(3)", x.count(3), 0);
    Check.due("none can be", x.undo(), -1);
  }

  private static void onlyTheLastTwelve() {
    SisterCourts x = Check.told(TEXT);
    for (int day = 0; day < 20; day++) {
      x.set(0, 0, day);
      Check.due("count(4)", x.count(4), Math.min(12, 2 * day + 1));
      x.clear(0);
    }
    x.set(0, 0, 50);
    Check.due("count(4)", x.count(4), 12);
    for (int still = 11; still >= 0; still--) {
      Check.due("undo()", x.undo(), still);
      int day = still % 2 == 1 ? -1 : 14 + still / 2;
      Check.due("file(0, 6), " + still + " left", x.file(0, 6), day);
    }
    Check.due("undo()", x.undo(), -1);
    Check.due("file(0, 6)", x.file(0, 6), 14);
  }

  private static void refusedCallsAreNoActs() {
    SisterCourts x = Check.told(TEXT);
    x.set(0, 0, 61);
    x.set(3, 0, 1);
    x.clear(0);
    x.go(2, 1);
    x.take(0, 6);
    x.even(0);
    x.best(0, 5, 0);
    x.bestOf(0, 5, 0);
    x.fairer(0);
    x.keep(0, false);
    x.keep(1, true);
    Check.due("count(4)", x.count(4), 0);
    Check.due("count(3)", x.count(3), 0);
  }

  private static void keeps() {
    SisterCourts x = Check.told(TEXT);
    Check.due("an empty calendar is kept", x.keep(1, false), true);
    x.set(0, 0, 1);
    x.set(1, 1, 2);
    Check.due("keep(0, false)", x.keep(0, false), true);
    Check.due("laying it lets acts be undone", x.count(4), 2);
    x.clear(0);
    x.set(2, 0, 3);
    Check.due("keep(0, true)", x.keep(0, true), true);
    Check.due("nothing can be undone", x.undo(), -1);
    Check.due("file(0, 5)", x.file(0, 5), 0);
    Check.due("file(0, 6)", x.file(0, 6), 1);
    Check.due("file(1, 5)", x.file(1, 5), 1);
    Check.due("file(2, 5)", x.file(2, 5), -1);
    Check.due("keep(1, true)", x.keep(1, true), true);
    Check.due("count(3)", x.count(3), 0);
    Check.due("gone back to again", x.keep(0, true), true);
    Check.due("count(3)", x.count(3), 2);
    x.clear(0);
    Check.due("laid anew", x.keep(0, false), true);
    Check.due("undo()", x.undo(), 0);
    Check.due("count(3)", x.count(3), 2);
    Check.due("keep(0, true)", x.keep(0, true), true);
    Check.due("count(3)", x.count(3), 1);
  }

  private static void keepsOutlastActs() {
    SisterCourts x = Check.told(TEXT);
    x.set(0, 0, 1);
    x.keep(0, false);
    x.set(1, 1, 2);
    x.keep(1, false);
    for (int act = 0; act < 40; act++) {
      x.clear(0);
      x.set(0, 1, act);
    }
    Check.due("keep(0, true)", x.keep(0, true), true);
    Check.due("file(0, 6)", x.file(0, 6), 1);
    Check.due("count(3)", x.count(3), 1);
    Check.due("keep(1, true)", x.keep(1, true), true);
    Check.due("file(0, 6)", x.file(0, 6), 1);
    Check.due("file(1, 6)", x.file(1, 6), 2);
  }

  private static void keepOthers() {
    SisterCourts x = Check.told(TEXT);
    x.set(0, 0, 1);
    Check.due("keep(2, false)", x.keep(2, false), false);
    Check.due("keep(-1, false)", x.keep(-1, false), false);
    Check.due("keep(2, true)", x.keep(2, true), false);
    Check.due("keep(-1, true)", x.keep(-1, true), false);
    Check.due("nothing is in it", x.keep(0, true), false);
    Check.due("nothing is in it", x.keep(1, true), false);
    Check.due("acts stay", x.count(4), 1);
    Check.due("sittings stay", x.count(3), 1);
  }

  private static void counts() {
    SisterCourts x = Check.told("town a;town b;" + TEXT.substring(7));
    x.set(0, 0, 1);
    x.feed(0, 0, 0, 0, 0);
    int[] due = {2, 2, 3, 1, 1, 20};
    for (int what = 0; what < 6; what++) {
      Check.due("count(" + what + ")", x.count(what), due[what]);
    }
    Check.due("count(6)", x.count(6), -1);
    Check.due("count(-1)", x.count(-1), -1);
    Check.due("NONE", SisterCourts.NONE, -1);
  }
}
