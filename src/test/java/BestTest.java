/** Promises 14 to 16: the best that can be done with the oldest of a day. */
public final class BestTest {
  public static void main(String[] args) {
    mostAreHeard();
    loadsAreLeast();
    theFirstOfLikeOnes();
    nobodyAheadOfAJudge();
    fewerOpenThanAsked();
    sameDayRules();
    take();
    takeAll();
    others();
    Check.end();
  }

  private static void mostAreHeard() {
    // Judge 0 alone may hear case 0; going by age he would be filled by it.
    SisterCourts x = Check.told("town a;judge j a 100 civil;judge k a 100 land;"
        + "case p a civil 0 100;case q a civil 1 50;case r a civil 2 50;");
    Check.due("best(2, 3, 0)", x.best(2, 3, 0), 2);
    Check.due("bestOf(2, 3, 0)", x.bestOf(2, 3, 0), -1);
    Check.due("bestOf(2, 3, 1)", x.bestOf(2, 3, 1), 0);
    Check.due("bestOf(2, 3, 2)", x.bestOf(2, 3, 2), 0);
    Check.due("best(2, 3, 1)", x.best(2, 3, 1), 100);
    Check.due("best(2, 3, 2)", x.best(2, 3, 2), 10000);
    Check.due("of the two oldest: the one with the least load", x.best(2, 2, 1), 50);
    Check.due("bestOf(2, 2, 0)", x.bestOf(2, 2, 0), -1);
    Check.due("bestOf(2, 2, 1)", x.bestOf(2, 2, 1), 0);
    Check.due("nothing is set", x.count(3), 0);
    Check.due("no acts", x.count(4), 0);
  }

  private static void loadsAreLeast() {
    SisterCourts x = Check.told("town a;town b;road a b 1;judge j a 600 civil;judge k a 600 civil;"
        + "judge l b 600 civil;case p a civil 0 100;case q a civil 0 90;case r a civil 0 60;"
        + "case s a civil 0 40;");
    // {100}, {90}, {60 + 40 + 60 away}: 160; {100}, {90, 40}, {60 + 60}: 130, 120, 100;
    // {100, 40}, ..: 140; {100}, {90}, ..; {100 + 60}: 160; {60, 40}, {90}, {100 + 60}: 160;
    // {100}, {60, 40}, {90 + 60}: 150; {90, 40}, {100}, {60 + 60}: like the best, later.
    Check.due("best(0, 4, 0)", x.best(0, 4, 0), 4);
    Check.due("best(0, 4, 1)", x.best(0, 4, 1), 130);
    Check.due("best(0, 4, 2)", x.best(0, 4, 2), 130 * 130 + 120 * 120 + 100 * 100);
    int[] due = {0, 1, 2, 1};
    for (int i = 0; i < 4; i++) {
      Check.due("bestOf(0, 4, " + i + ")", x.bestOf(0, 4, i), due[i]);
    }
    SisterCourts y = Check.told("town a;judge j a 600 civil;judge k a 600 civil;"
        + "case p a civil 5 100;case q a civil 0 50;case r a civil 1 60;");
    y.set(0, 1, 9);
    Check.due("the loads of all days count", y.bestOf(1, 2, 0), 0);
    Check.due("the loads of all days count", y.bestOf(1, 2, 1), 0);
    Check.due("the greatest load then", y.best(1, 2, 1), 110);
    Check.due("the sum of squares", y.best(1, 2, 2), 110 * 110 + 100 * 100);
  }

  private static void theFirstOfLikeOnes() {
    SisterCourts x = Check.told("town a;judge j a 600 land;judge k a 600 civil;judge l a 600 civil;"
        + "judge m a 600 civil;case p a civil 1 50;case q a civil 0 50;case r a civil 1 50;");
    Check.due("the oldest has the first judge", x.bestOf(5, 3, 0), 1);
    Check.due("then the next", x.bestOf(5, 3, 1), 2);
    Check.due("then the last", x.bestOf(5, 3, 2), 3);
  }

  private static void nobodyAheadOfAJudge() {
    // One of two like cases can be heard: nobody for the first one comes first.
    SisterCourts x = Check.told("town a;judge j a 60 civil;case p a civil 0 60;case q a civil 0 60;");
    Check.due("best(0, 2, 0)", x.best(0, 2, 0), 1);
    Check.due("bestOf(0, 2, 0)", x.bestOf(0, 2, 0), -1);
    Check.due("bestOf(0, 2, 1)", x.bestOf(0, 2, 1), 0);
  }

  private static void fewerOpenThanAsked() {
    SisterCourts x = Check.told("town a;judge j a 60 civil;case p a civil 0 20;case q a civil 1 20;"
        + "case r a civil 9 20;");
    Check.due("best(1, 5, 0)", x.best(1, 5, 0), 2);
    Check.due("bestOf(1, 5, 1)", x.bestOf(1, 5, 1), 0);
    Check.due("no such i: not so many are open", x.bestOf(1, 5, 2), -2);
    Check.due("no such i: not so many are asked", x.bestOf(1, 1, 1), -2);
    Check.due("best(1, 0, 0)", x.best(1, 0, 0), 0);
    Check.due("best(1, 0, 1)", x.best(1, 0, 1), 0);
    Check.due("bestOf(1, 0, 0)", x.bestOf(1, 0, 0), -2);
    x.set(0, 0, 0);
    Check.due("the loads as they are", x.best(1, 0, 1), 20);
    Check.due("the loads as they are", x.best(1, 0, 2), 400);
  }

  private static void sameDayRules() {
    // One judge can't be in two towns, and those who quarrel not in one.
    SisterCourts x = Check.told("town a;town b;road a b 0;judge j a 600 civil;judge k a 600 civil;"
        + "quarrel j k;case p a civil 0 10;case q b civil 0 10;case r a civil 0 10;");
    Check.due("best(0, 3, 0)", x.best(0, 3, 0), 3);
    Check.due("both of a by one, b by the other", x.bestOf(0, 3, 0), 0);
    Check.due("both of a by one, b by the other", x.bestOf(0, 3, 1), 1);
    Check.due("both of a by one, b by the other", x.bestOf(0, 3, 2), 0);
    Check.due("one day away counts once", x.best(0, 3, 2), 20 * 20 + 70 * 70);
  }

  private static void take() {
    SisterCourts x = Check.told("town a;judge j a 100 civil;judge k a 100 land;"
        + "case p a civil 0 100;case q a civil 1 50;case r a civil 2 50;");
    Check.due("take(2, 3)", x.take(2, 3), 2);
    Check.due("file(0, 5)", x.file(0, 5), -1);
    Check.due("file(1, 5)", x.file(1, 5), 0);
    Check.due("file(1, 6)", x.file(1, 6), 2);
    Check.due("file(2, 5)", x.file(2, 5), 0);
    Check.due("one act", x.count(4), 1);
    Check.due("take(2, 3) again", x.take(2, 3), 0);
    Check.due("take(2, 0)", x.take(2, 0), 0);
    Check.due("acts of which nothing came", x.count(4), 3);
    x.undo();
    x.undo();
    Check.due("undo()", x.undo(), 0);
    Check.due("count(3)", x.count(3), 0);
  }

  private static void takeAll() {
    SisterCourts x = Check.told("town a;judge j a 100 civil;judge k a 100 civil;"
        + "case p a civil 3 60;case q a civil 2 50;case r a civil 2 40;");
    Check.due("take(9, 5)", x.take(9, 5), 3);
    int[] due = {1, 0, 0};
    for (int file = 0; file < 3; file++) {
      Check.due("file(" + file + ", 5)", x.file(file, 5), due[file]);
      Check.due("file(" + file + ", 6)", x.file(file, 6), 9);
    }
  }

  private static void others() {
    SisterCourts x = Check.told("town a;judge j a 100 civil;case p a civil 0 100;");
    Check.due("best(61, 1, 0)", x.best(61, 1, 0), -1);
    Check.due("best(-1, 1, 0)", x.best(-1, 1, 0), -1);
    Check.due("best(0, 6, 0)", x.best(0, 6, 0), -1);
    Check.due("best(0, -1, 0)", x.best(0, -1, 0), -1);
    Check.due("best(0, 1, 3)", x.best(0, 1, 3), -1);
    Check.due("best(0, 1, -1)", x.best(0, 1, -1), -1);
    Check.due("bestOf(61, 1, 0)", x.bestOf(61, 1, 0), -2);
    Check.due("bestOf(0, 6, 0)", x.bestOf(0, 6, 0), -2);
    Check.due("bestOf(0, -1, 0)", x.bestOf(0, -1, 0), -2);
    Check.due("bestOf(0, 1, -1)", x.bestOf(0, 1, -1), -2);
    Check.due("bestOf(0, 1, 1)", x.bestOf(0, 1, 1), -2);
    Check.due("take(61, 1)", x.take(61, 1), -1);
    Check.due("take(-1, 1)", x.take(-1, 1), -1);
    Check.due("take(0, 6)", x.take(0, 6), -1);
    Check.due("take(0, -1)", x.take(0, -1), -1);
    Check.due("no acts", x.count(4), 0);
    Check.due("best(0, 5, 0)", x.best(0, 5, 0), 1);
  }
}
