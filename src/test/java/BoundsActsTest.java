/**
 * Each sentence of the document that names a boundary case, with a test of its own: acts undone, keeps,
 * counts, an object's last calls (==== 2, promises 27 to 29).
 */
public final class BoundsActsTest {
  private static final String TEXT = "town a;judge j a 600 civil;judge k a 600 civil;"
      + "case c a civil 0 10;case d a civil 0 20;case e a civil 5 40;";

  public static void main(String[] args) {
    acts();
    nothingComesOfIt();
    noActs();
    lastTwelve();
    lastTwelveRound();
    oneByOne();
    undo();
    keepsHoldAll();
    nothingCanBeUndone();
    keep();
    count();
    lastCall();
    constant();
    Check.end();
  }

  private static void acts() {
    Check.sentence(0, "ACTS: a SITTING is set, cleared, DAYS are GONE THROUGH, BEST is set, FAIRER ones are done");
    SisterCourts x = Check.told(TEXT);
    Check.due("set", x.set(0, 0, 1), true);
    Check.due("one", x.count(4), 1);
    Check.due("set", x.set(1, 0, 1), true);
    Check.due("two", x.count(4), 2);
    Check.due("even", x.even(50), 1);
    Check.due("three", x.count(4), 3);
    Check.due("clear", x.clear(0), 1);
    Check.due("four", x.count(4), 4);
    Check.due("go, through many days", x.go(0, 4), 1);
    Check.due("five", x.count(4), 5);
    Check.due("take", x.take(5, 5), 1);
    Check.due("six", x.count(4), 6);
    String[] due = {"1 0 -1", "-1 0 -1", "1 0 -1", "0 0 -1", "0 -1 -1", "-1 -1 -1"};
    for (int still = 5; still >= 0; still--) {
      Check.due("undo()", x.undo(), still);
      Check.due("as it was ahead of it", Check.judges(x), due[5 - still]);
    }
  }

  private static void nothingComesOfIt() {
    Check.sentence(0, "(these three also if nothing comes of it)");
    SisterCourts x = Check.told(TEXT.replace("5 40", "5 10"));
    Check.due("all are heard, and the loads are alike", x.go(5, 5), 3);
    Check.due("go", x.go(0, 60), 0);
    Check.due("two acts", x.count(4), 2);
    Check.due("take", x.take(60, 5), 0);
    Check.due("three acts", x.count(4), 3);
    Check.due("take of none", x.take(60, 0), 0);
    Check.due("four acts", x.count(4), 4);
    Check.due("even", x.even(1), 0);
    Check.due("five acts", x.count(4), 5);
    for (int still = 4; still >= 1; still--) {
      Check.due("undo()", x.undo(), still);
      Check.due("nothing came of it", x.count(3), 3);
    }
    Check.due("undo()", x.undo(), 0);
    Check.due("the first one", x.count(3), 0);
    SisterCourts none = new SisterCourts();
    Check.due("without a text", none.go(0, 0) + none.take(0, 0) + none.even(1), 0);
    Check.due("three acts", none.count(4), 3);
    Check.due("undo()", none.undo(), 2);
  }

  private static void noActs() {
    Check.sentence(8, "false: it MAY not be, others.");
    SisterCourts x = Check.told(TEXT);
    Check.sit(x, 0, 0, 1);
    Check.due("it has one", x.set(0, 1, 1), false);
    Check.due("too early", x.set(2, 0, 4), false);
    Check.due("no such case", x.set(3, 0, 1), false);
    Check.due("no act", x.count(4), 1);
    Check.sentence(9, "NONE: it has none, none such.");
    Check.due("it has none", x.clear(1), -1);
    Check.due("no such case", x.clear(3), -1);
    Check.due("no act", x.count(4), 1);
    Check.sentence(13, "NONE: others.");
    Check.due("back in time", x.go(1, 0), -1);
    Check.due("no act", x.count(4), 1);
    Check.sentence(16, "NONE: others.");
    Check.due("six", x.take(0, 6), -1);
    Check.due("no act", x.count(4), 1);
    Check.sentence(20, "NONE: another n.");
    Check.due("none", x.even(0), -1);
    Check.due("51", x.even(51), -1);
    Check.due("no act", x.count(4), 1);
    Check.due("all that can be undone is the first one", x.undo(), 0);
    Check.due("undone", Check.judges(x), "-1 -1 -1");
  }

  private static void lastTwelve() {
    Check.sentence(0, "The last 12 can be UNDONE");
    for (int acts = 0; acts <= 40; acts++) {
      SisterCourts x = Check.told(TEXT);
      for (int act = 0; act < acts; act++) {
        setOrClear(x, act);
      }
      int can = Math.min(acts, 12);
      Check.due("of " + acts, x.count(4), can);
      for (int still = can - 1; still >= 0; still--) {
        Check.due("of " + acts + ", undo()", x.undo(), still);
        Check.due("of " + acts + ", the day then", x.file(0, 6), dayAfter(acts - can + still));
      }
      Check.due("of " + acts + ", no more", x.undo(), -1);
      Check.due("of " + acts + ", all as it was", x.file(0, 6), dayAfter(acts - can));
    }
  }

  /** By turns: case 0 is set on a day that tells the act, and cleared. */
  private static void setOrClear(SisterCourts x, int act) {
    if (act % 2 == 0) {
      Check.sit(x, 0, 0, act);
    } else {
      x.clear(0);
    }
  }

  private static int dayAfter(int acts) {
    return acts % 2 == 0 ? -1 : acts - 1;
  }

  private static void lastTwelveRound() {
    Check.sentence(0, "The last 12 can be UNDONE");
    SisterCourts x = Check.told(TEXT);
    for (int act = 0; act < 30; act++) {
      setOrClear(x, act);
    }
    for (int still = 11; still >= 6; still--) {
      Check.due("back by some", x.undo(), still);
    }
    Check.due("the 24th is done", x.file(0, 6), -1);
    for (int act = 24; act < 28; act++) {
      setOrClear(x, act + 20);
      Check.due("on by some", x.count(4), act - 17);
    }
    Check.due("then ten can be undone", x.undo(), 9);
    Check.due("the day then", x.file(0, 6), 46);
    for (int still = 8; still >= 0; still--) {
      Check.due("back by all", x.undo(), still);
    }
    Check.due("the 18th is done", x.file(0, 6), -1);
    Check.due("no more", x.undo(), -1);
    for (int act = 0; act < 13; act++) {
      setOrClear(x, act);
    }
    Check.due("twelve again", x.count(4), 12);
    for (int still = 11; still >= 0; still--) {
      Check.due("back by all", x.undo(), still);
    }
    Check.due("the first of the thirteen stays", x.file(0, 6), 0);
  }

  private static void oneByOne() {
    Check.sentence(0, "one by one.");
    SisterCourts x = Check.told(TEXT);
    Check.due("three sittings by one act", x.go(5, 9), 3);
    Check.due("one by another", x.clear(1), 5);
    Check.due("the latest alone", x.undo(), 1);
    Check.due("count(3)", x.count(3), 3);
    Check.due("the act of three at once", x.undo(), 0);
    Check.due("count(3)", x.count(3), 0);
  }

  private static void undo() {
    Check.sentence(27, "The latest ACT is UNDONE: how many can be still; NONE: none can be.");
    SisterCourts x = Check.told(TEXT);
    Check.due("none", x.undo(), -1);
    Check.due("nothing came of it", Check.seen(x), Check.seen(Check.told(TEXT)));
    Check.sit(x, 0, 0, 1, 1, 1, 60);
    Check.due("one still", x.undo(), 1);
    Check.due("the latest", Check.days(x), "1 -1 -1");
    Check.due("none still", x.undo(), 0);
    Check.due("the first", Check.days(x), "-1 -1 -1");
    Check.due("none can be", x.undo(), -1);
    Check.due("nor again", x.undo(), -1);
    Check.due("count(4)", x.count(4), 0);
    Check.sit(x, 2, 1, 5);
    Check.due("another act", x.undo(), 0);
    Check.due("a new object", new SisterCourts().undo(), -1);
    SisterCourts y = Check.told(TEXT);
    Check.sit(y, 0, 0, 1);
    Check.due("an undoing is no act: it can't be undone", y.undo() + y.undo(), -1);
    Check.due("it stays undone", y.count(3), 0);
  }

  private static void keepsHoldAll() {
    Check.sentence(0, "KEEPS 0 and 1 hold all SITTINGS");
    SisterCourts x = Check.told(TEXT);
    Check.sit(x, 0, 0, 0, 1, 1, 60);
    Check.due("keep(0, false)", x.keep(0, false), true);
    x.clear(0);
    Check.sit(x, 2, 1, 5);
    Check.due("keep(1, false)", x.keep(1, false), true);
    x.go(0, 60);
    Check.due("keep(0, true)", x.keep(0, true), true);
    Check.due("judges", Check.judges(x), "0 1 -1");
    Check.due("days", Check.days(x), "0 60 -1");
    Check.due("keep(1, true)", x.keep(1, true), true);
    Check.due("judges", Check.judges(x), "-1 1 1");
    Check.due("days", Check.days(x), "-1 60 5");
    x.clear(1);
    Check.due("it stays when it is gone back to", x.keep(1, true), true);
    Check.due("days", Check.days(x), "-1 60 5");
    Check.due("laid anew", x.keep(0, false), true);
    x.clear(2);
    Check.due("gone back to", x.keep(0, true), true);
    Check.due("days", Check.days(x), "-1 60 5");
    SisterCourts many = Check.told(TEXT);
    Check.sit(many, 0, 1, 7);
    many.keep(0, false);
    many.keep(1, false);
    for (int act = 0; act < 40; act++) {
      many.clear(0);
      Check.sit(many, 0, 0, act);
    }
    Check.due("forty acts later", many.keep(1, true), true);
    Check.due("days", Check.days(many), "7 -1 -1");
    Check.due("judges", Check.judges(many), "1 -1 -1");
    Check.due("the other one", many.keep(0, true), true);
    Check.due("days", Check.days(many), "7 -1 -1");
  }

  private static void nothingCanBeUndone() {
    Check.sentence(0, "(nothing can be UNDONE when one is gone back to)");
    SisterCourts x = Check.told(TEXT);
    x.keep(0, false);
    for (int act = 0; act < 15; act++) {
      setOrClear(x, act);
    }
    Check.due("laid: acts can be undone still", x.keep(1, false), true);
    Check.due("count(4)", x.count(4), 12);
    Check.due("undo()", x.undo(), 11);
    Check.due("gone back to", x.keep(0, true), true);
    Check.due("count(4)", x.count(4), 0);
    Check.due("undo()", x.undo(), -1);
    Check.due("days", Check.days(x), "-1 -1 -1");
    Check.sit(x, 1, 0, 3);
    Check.due("an act after it", x.undo(), 0);
    Check.due("none ahead of it", x.undo(), -1);
    Check.sit(x, 1, 0, 3);
    Check.due("not gone back to: nothing is in it", Check.told(TEXT).keep(1, true), false);
    Check.due("no such one", x.keep(2, true), false);
    Check.due("acts stay then", x.count(4), 1);
    Check.due("the other one", x.keep(1, true), true);
    Check.due("days", Check.days(x), "14 -1 -1");
    Check.due("count(4)", x.count(4), 0);
  }

  private static void keep() {
    Check.sentence(28, "A KEEP is laid (back: gone back to): true;");
    SisterCourts x = Check.told(TEXT);
    Check.due("laid without sittings", x.keep(1, false), true);
    Check.due("gone back to without sittings", x.keep(1, true), true);
    Check.due("laid", x.keep(0, false), true);
    Check.due("laid again", x.keep(0, false), true);
    Check.due("gone back to", x.keep(0, true), true);
    Check.due("gone back to again", x.keep(0, true), true);
    Check.due("laying is no act", x.count(4), 0);
    Check.due("without a text", new SisterCourts().keep(0, false), true);
    Check.sentence(28, "false: none such, nothing is in it (back).");
    SisterCourts y = Check.told(TEXT);
    Check.sit(y, 0, 0, 1);
    for (int none : new int[] {-1, 2, 3, 12, 31, 32, 33, Integer.MIN_VALUE, Integer.MAX_VALUE}) {
      Check.due("keep(" + none + ", false)", y.keep(none, false), false);
      Check.due("keep(" + none + ", true)", y.keep(none, true), false);
    }
    Check.due("nothing is in 0", y.keep(0, true), false);
    Check.due("nothing is in 1", y.keep(1, true), false);
    Check.due("sittings stay", y.count(3), 1);
    Check.due("acts stay", y.count(4), 1);
    y.keep(0, false);
    Check.due("one is laid, nothing is in the other", y.keep(1, true), false);
    Check.due("acts stay", y.count(4), 1);
    SisterCourts z = Check.told(TEXT);
    z.keep(1, false);
    Check.due("the other one is laid, nothing is in the first", z.keep(0, true), false);
    Check.due("of a new object", new SisterCourts().keep(0, true), false);
  }

  private static void count() {
    Check.sentence(29, "What 0: TOWNS, 1: JUDGES, 2: CASES, 3: SITTINGS, 4: ACTS that can be UNDONE, "
        + "5: bytes on THE TAPE.");
    SisterCourts x = Check.told("town b;town z;" + TEXT + "case f a civil 0 10;");
    Check.sit(x, 0, 0, 1, 1, 0, 1);
    x.clear(1);
    x.go(60, 60);
    x.clear(0);
    x.feed(0, 0, 0, 0, 0);
    int[] due = {3, 2, 4, 3, 5, 20};
    for (int what = 0; what <= 5; what++) {
      Check.due("count(" + what + ")", x.count(what), due[what]);
    }
    StringBuilder most = new StringBuilder("town a;town b;town d;town e;town f;");
    for (char c = 'p'; c < 'p' + 6; c++) {
      most.append("judge ").append(c).append(" a 600 land;");
    }
    for (char c = 'a'; c < 'a' + 12; c++) {
      most.append("case x").append(c).append(" a land 0 10;");
    }
    SisterCourts y = Check.told(most.toString());
    Check.due("all are heard", y.go(0, 0), 12);
    for (int act = 0; act < 20; act++) {
      y.even(1);
    }
    for (int feed = 0; feed < 50; feed++) {
      y.feed(0, 0, 0, 0, 0);
    }
    int[] greatest = {5, 6, 12, 12, 12, 800};
    for (int what = 0; what <= 5; what++) {
      Check.due("the greatest count(" + what + ")", y.count(what), greatest[what]);
    }
    Check.sentence(29, "NONE for another what.");
    for (int what : new int[] {-1, -2, 6, 7, Integer.MIN_VALUE, Integer.MAX_VALUE}) {
      Check.due("count(" + what + ")", y.count(what), -1);
    }
  }

  private static void lastCall() {
    Check.sentence(0, "An object is used for at most 512 calls after it has been made");
    SisterCourts x = Check.told("town a;judge j a 600 land;judge k a 600 land;case c a land 0 10;case d a land 0 20;");
    // Five feedings and the telling of the text were the first six.
    int calls = 6;
    for (int i = 0; calls < 508; i++) {
      x.set(0, 0, i % 61);
      x.clear(0);
      calls += 2;
    }
    Check.due("the 509th", x.set(0, 1, 60), true);
    Check.due("the 510th", x.best(0, 5, 1), 20);
    Check.due("the 511th", x.undo(), 11);
    Check.due("the 512th", x.count(3), 0);
  }

  private static void constant() {
    Check.sentence(0, "The constants: `NONE = -1`: None.");
    Check.due("NONE", SisterCourts.NONE, -1);
  }
}
