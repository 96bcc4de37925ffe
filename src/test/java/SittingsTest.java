/** Promises 7 to 13: whether one may be set and why not, sittings by hand and day by day. */
public final class SittingsTest {
  /** b is 1 day from a, c 2 from b, d 0 from a, e is without a way. */
  private static final String TOWNS = "town a;town b;town c;town d;town e;"
      + "road a b 1;road b c 2;road a d 0;";
  private static final String JUDGES = "judge j a 100 civil crime;judge k b 60 civil;"
      + "judge l e 600 civil crime family land;quarrel j k;";

  public static void main(String[] args) {
    whyNot();
    orderOfReasons();
    cannotBeInBoth();
    quarrels();
    minutesOfADay();
    setAndClear();
    sits();
    open();
    goThrough();
    goDayByDay();
    goByLoadThenTravel();
    goOthers();
    Check.end();
  }

  private static SisterCourts with(String cases) {
    return Check.told(TOWNS + JUDGES + cases);
  }

  private static void whyNot() {
    SisterCourts x = with("case p a civil 5 50;case q a land 5 50 bars l;");
    Check.due("may be", x.why(0, 0, 5), 0);
    Check.due("may be, the last day", x.why(0, 0, 60), 0);
    Check.due("ahead of the day filed", x.why(0, 0, 4), 3);
    Check.due("none of his sorts", x.why(1, 0, 5), 1);
    Check.due("barred", x.why(1, 2, 5), 2);
    Check.due("day 61", x.why(0, 0, 61), -1);
    Check.due("day -1", x.why(0, 0, -1), -1);
    Check.due("case 2", x.why(2, 0, 5), -1);
    Check.due("case -1", x.why(-1, 0, 5), -1);
    Check.due("judge 3", x.why(0, 3, 5), -1);
    Check.due("judge -1", x.why(0, -1, 5), -1);
  }

  private static void orderOfReasons() {
    // All reasons at once, then one less at a time.
    SisterCourts x = with("case p a land 5 70 bars k;case q a civil 5 70 bars k;"
        + "case r a civil 5 70;case s b civil 5 10;case t a civil 5 50;case u d civil 5 50;");
    x.set(3, 1, 6);
    x.set(4, 0, 6);
    Check.due("7 is the first", x.why(3, 1, 4), 7);
    Check.due("3 ahead of 1", x.why(0, 1, 4), 3);
    Check.due("1 ahead of 2", x.why(0, 1, 6), 1);
    Check.due("2 ahead of 5", x.why(1, 1, 6), 2);
    Check.due("5 ahead of 6 and 4", x.why(2, 1, 6), 5);
    x.clear(3);
    Check.due("6 ahead of 4", x.why(2, 1, 6), 6);
    x.clear(4);
    Check.due("4", x.why(2, 1, 6), 4);
    Check.due("none", x.why(4, 1, 6), 0);
  }

  private static void cannotBeInBoth() {
    SisterCourts x = with("case p a civil 0 10;case q b civil 0 10;case r c civil 0 10;"
        + "case s d civil 0 10;case t e civil 0 10;case u a civil 0 10;");
    x.set(0, 0, 20);
    int[][] firstApart = {{1, 2}, {2, 4}, {3, 1}};
    for (int[] pair : firstApart) {
      for (int apart = 0; apart <= 5; apart++) {
        int due = apart < pair[1] ? 5 : 0;
        Check.due("case " + pair[0] + ", later by " + apart, x.why(pair[0], 0, 20 + apart), due);
        Check.due("case " + pair[0] + ", ahead by " + apart, x.why(pair[0], 0, 20 - apart), due);
      }
    }
    Check.due("without a way: never", x.why(4, 0, 60), 5);
    Check.due("without a way: never", x.why(4, 0, 0), 5);
    Check.due("the same town and day", x.why(5, 0, 20), 0);
    Check.due("the same town, the next day", x.why(5, 0, 21), 0);
    Check.due("another judge", x.why(4, 2, 20), 0);
    x.set(1, 0, 30);
    Check.due("between two sittings, too near to the later", x.why(3, 0, 29), 5);
    Check.due("between two sittings", x.why(3, 0, 28), 0);
  }

  private static void quarrels() {
    SisterCourts x = with("case p a civil 0 10;case q a civil 0 10;case r b civil 0 10;");
    x.set(0, 1, 7);
    Check.due("he sits there", x.why(1, 0, 7), 6);
    Check.due("another day", x.why(1, 0, 8), 0);
    Check.due("another town", x.why(2, 0, 7), 0);
    Check.due("no quarrel", x.why(1, 2, 7), 0);
    x.clear(0);
    x.set(0, 0, 7);
    Check.due("the other way", x.why(1, 1, 7), 6);
  }

  private static void minutesOfADay() {
    SisterCourts x = with("case p a civil 0 60;case q a civil 0 40;case r a civil 0 41;"
        + "case s b civil 0 61;");
    Check.due("set", x.set(0, 0, 3), true);
    Check.due("just what he has", x.why(1, 0, 3), 0);
    Check.due("one more", x.why(2, 0, 3), 4);
    Check.due("another day", x.why(2, 0, 4), 0);
    Check.due("alone too long", x.why(3, 1, 4), 4);
    Check.due("minutes(0, 3)", x.minutes(0, 3), 60);
    x.set(1, 0, 3);
    Check.due("minutes(0, 3)", x.minutes(0, 3), 100);
    Check.due("minutes(0, 4)", x.minutes(0, 4), 0);
    Check.due("minutes(2, 3)", x.minutes(2, 3), 0);
    Check.due("minutes(3, 3)", x.minutes(3, 3), -1);
    Check.due("minutes(-1, 3)", x.minutes(-1, 3), -1);
    Check.due("minutes(0, 61)", x.minutes(0, 61), -1);
    Check.due("minutes(0, -1)", x.minutes(0, -1), -1);
    Check.due("minutes(0, 60)", x.minutes(0, 60), 0);
  }

  private static void setAndClear() {
    SisterCourts x = with("case p a civil 2 60;case q a land 0 40;");
    Check.due("set too early", x.set(0, 0, 1), false);
    Check.due("set: not his sort", x.set(1, 0, 1), false);
    Check.due("set: no such case", x.set(2, 0, 2), false);
    Check.due("set: no such judge", x.set(0, 3, 2), false);
    Check.due("set: no such day", x.set(0, 0, 61), false);
    Check.due("no acts", x.count(4), 0);
    Check.due("no sittings", x.count(3), 0);
    Check.due("clear(0)", x.clear(0), -1);
    Check.due("clear(2)", x.clear(2), -1);
    Check.due("clear(-1)", x.clear(-1), -1);
    Check.due("no acts", x.count(4), 0);
    Check.due("set(0, 0, 2)", x.set(0, 0, 2), true);
    Check.due("set(0, 0, 2) again", x.set(0, 0, 2), false);
    Check.due("one act", x.count(4), 1);
    Check.due("file(0, 5)", x.file(0, 5), 0);
    Check.due("file(0, 6)", x.file(0, 6), 2);
    Check.due("clear(0)", x.clear(0), 2);
    Check.due("two acts", x.count(4), 2);
    Check.due("file(0, 5)", x.file(0, 5), -1);
    Check.due("file(0, 6)", x.file(0, 6), -1);
    Check.due("set(1, 2, 0)", x.set(1, 2, 0), true);
    Check.due("clear(1), day 0", x.clear(1), 0);
  }

  private static void sits() {
    SisterCourts x = with("case p c civil 2 60;case q a civil 0 40;");
    x.set(0, 0, 2);
    x.set(1, 0, 60);
    Check.due("sits(0, 2)", x.sits(0, 2), 2);
    Check.due("sits(0, 60)", x.sits(0, 60), 0);
    Check.due("sits(0, 3)", x.sits(0, 3), -1);
    Check.due("sits(1, 2)", x.sits(1, 2), -1);
    Check.due("sits(3, 2)", x.sits(3, 2), -2);
    Check.due("sits(-1, 2)", x.sits(-1, 2), -2);
    Check.due("sits(0, 61)", x.sits(0, 61), -2);
    Check.due("sits(0, -1)", x.sits(0, -1), -2);
  }

  private static void open() {
    SisterCourts x = with("case p a civil 5 60;case q a civil 3 40;case r a civil 5 10;"
        + "case s a civil 0 10;case t a civil 3 10;case u a civil 60 10;");
    int[] due = {3, 1, 4, 0, 2, 5};
    Check.due("open(60, -1)", x.open(60, -1), 6);
    for (int k = 0; k < 6; k++) {
      Check.due("open(60, " + k + ")", x.open(60, k), due[k]);
    }
    Check.due("open(60, 6)", x.open(60, 6), -2);
    Check.due("open(60, -2)", x.open(60, -2), -2);
    Check.due("open(61, -1)", x.open(61, -1), -2);
    Check.due("open(-1, -1)", x.open(-1, -1), -2);
    Check.due("open(0, -1)", x.open(0, -1), 1);
    Check.due("open(2, -1)", x.open(2, -1), 1);
    Check.due("open(3, -1)", x.open(3, -1), 3);
    x.set(1, 0, 50);
    Check.due("one with a sitting, though later, is not open", x.open(3, -1), 2);
    Check.due("open(3, 1)", x.open(3, 1), 4);
  }

  private static void goThrough() {
    SisterCourts x = Check.told("town a;judge j a 60 civil;judge k a 100 civil;"
        + "case p a civil 3 50;case q a civil 1 60;case r a civil 2 60;case s a civil 4 10;");
    Check.due("go(3, 3)", x.go(3, 3), 2);
    Check.due("the oldest goes to judge 0", x.file(1, 5), 0);
    Check.due("the next to judge 1", x.file(2, 5), 1);
    Check.due("the third has nobody", x.file(0, 5), -1);
    Check.due("not filed yet", x.file(3, 5), -1);
    Check.due("go(3, 3) again", x.go(3, 3), 0);
    Check.due("two acts", x.count(4), 2);
  }

  private static void goDayByDay() {
    SisterCourts x = Check.told("town a;judge j a 60 civil;case p a civil 0 60;case q a civil 0 60;"
        + "case r a civil 0 60;case s a civil 60 60;case t a land 0 60;");
    Check.due("go(0, 60)", x.go(0, 60), 4);
    Check.due("one act", x.count(4), 1);
    Check.due("file(0, 6)", x.file(0, 6), 0);
    Check.due("file(1, 6)", x.file(1, 6), 1);
    Check.due("file(2, 6)", x.file(2, 6), 2);
    Check.due("file(3, 6)", x.file(3, 6), 60);
    Check.due("file(4, 6)", x.file(4, 6), -1);
    Check.due("undo()", x.undo(), 0);
    Check.due("count(3)", x.count(3), 0);
  }

  private static void goByLoadThenTravel() {
    String text = "town a;town b;town c;road a b 2;road b c 1;judge h c 600 land;judge i a 600 civil;"
        + "judge j c 600 civil;judge k a 600 civil;judge l c 600 civil;";
    SisterCourts x = Check.told(text + "case p b civil 0 50;case q b civil 0 50;case r b civil 0 50;"
        + "case s b civil 0 50;case t b civil 0 10;case u b civil 0 10;");
    Check.due("go(0, 0)", x.go(0, 0), 6);
    int[] due = {2, 4, 1, 3, 2, 4};
    for (int file = 0; file < 6; file++) {
      Check.due("the judge of " + file, x.file(file, 5), due[file]);
    }
    SisterCourts y = Check.told("town a;town b;judge j a 600 civil;judge k b 600 civil;"
        + "case p b civil 0 50;case q b civil 0 300;");
    y.go(0, 0);
    Check.due("no way is longest", y.file(0, 5), 1);
    Check.due("but load comes first, without a way too", y.file(1, 5), 0);
  }

  private static void goOthers() {
    SisterCourts x = with("case p a civil 2 60;");
    Check.due("go(5, 4)", x.go(5, 4), -1);
    Check.due("go(-1, 4)", x.go(-1, 4), -1);
    Check.due("go(5, 61)", x.go(5, 61), -1);
    Check.due("go(61, 61)", x.go(61, 61), -1);
    Check.due("no acts", x.count(4), 0);
    Check.due("go(0, 1)", x.go(0, 1), 0);
    Check.due("an act of which nothing came", x.count(4), 1);
  }
}
