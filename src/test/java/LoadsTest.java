/** Promises 17 to 26: loads and their order, fairer ones, what towns lent, floats and doubles. */
public final class LoadsTest {
  public static void main(String[] args) {
    load();
    ranked();
    fairer();
    fairerTies();
    fairerMayBe();
    even();
    lentAndOwed();
    payments();
    share();
    spread();
    waited();
    Check.end();
  }

  private static void load() {
    SisterCourts x = Check.told("town a;town b;road a b 0;judge j a 600 civil;judge k b 600 civil;"
        + "case p b civil 0 10;case q b civil 0 20;case r b civil 0 40;case s a civil 0 80;");
    Check.due("load(0)", x.load(0), 0);
    x.set(2, 0, 5);
    Check.due("a day away", x.load(0), 100);
    x.set(0, 0, 5);
    Check.due("the same day away", x.load(0), 110);
    x.set(1, 0, 7);
    Check.due("another day away", x.load(0), 190);
    x.set(3, 0, 6);
    Check.due("a day at home", x.load(0), 270);
    x.clear(2);
    Check.due("the day away stays by the other case", x.load(0), 230);
    x.clear(0);
    Check.due("the day away is gone", x.load(0), 160);
    x.set(0, 1, 5);
    Check.due("at home", x.load(1), 10);
    Check.due("load(2)", x.load(2), -1);
    Check.due("load(-1)", x.load(-1), -1);
  }

  private static void ranked() {
    SisterCourts x = Check.told("town a;judge j a 600 civil;judge k a 600 civil;judge l a 600 civil;"
        + "judge m a 600 civil;case p a civil 0 10;case q a civil 0 20;case r a civil 0 10;");
    x.set(0, 3, 0);
    x.set(1, 2, 0);
    x.set(2, 1, 0);
    int[] due = {2, 1, 3, 0};
    for (int k = 0; k < 4; k++) {
      Check.due("ranked(" + k + ")", x.ranked(k), due[k]);
    }
    Check.due("ranked(4)", x.ranked(4), -1);
    Check.due("ranked(-1)", x.ranked(-1), -1);
  }

  private static void fairer() {
    SisterCourts x = Check.told("town a;judge j a 600 civil;judge k a 600 civil;"
        + "case p a civil 0 100;case q a civil 0 30;case r a civil 0 50;");
    x.set(0, 0, 0);
    Check.due("one sitting: like loads are not less", x.fairer(0), -1);
    Check.due("fairer(1)", x.fairer(1), -1);
    x.set(1, 0, 0);
    x.set(2, 0, 3);
    // 180, 0: without p 80, 100; without q 150, 30; without r 130, 50.
    Check.due("fairer(0)", x.fairer(0), 0);
    Check.due("fairer(1)", x.fairer(1), 1);
    Check.due("fairer(2)", x.fairer(2), -1);
    Check.due("fairer(-1)", x.fairer(-1), -1);
    Check.due("nothing is done", x.load(0), 180);
    Check.due("no act", x.count(4), 3);
  }

  private static void fairerTies() {
    SisterCourts x = Check.told("town a;judge j a 600 land;judge k a 600 civil;judge l a 600 civil;"
        + "judge m a 600 civil;case o a land 0 10;case p a civil 0 50;case q a civil 0 50;");
    x.set(2, 3, 0);
    x.set(1, 3, 1);
    Check.due("the first case", x.fairer(0), 1);
    Check.due("then the first judge", x.fairer(1), 1);
    SisterCourts y = Check.told("town a;judge j a 600 civil;judge k a 600 civil;judge l a 600 civil;"
        + "case o a civil 0 100;case p a civil 0 60;case q a civil 0 40;");
    y.set(0, 0, 0);
    y.set(1, 1, 0);
    y.set(2, 1, 0);
    // 100, 100, 0: q to l: 100, 60, 40; p to l the same loads, and comes first.
    Check.due("the greatest may stay, the next is less", y.fairer(0), 1);
    Check.due("fairer(1)", y.fairer(1), 2);
  }

  private static void fairerMayBe() {
    SisterCourts x = Check.told("town a;town b;road a b 3;judge j a 600 civil crime;"
        + "judge k a 600 civil;judge l a 600 civil;quarrel j k;quarrel j l;case p a civil 0 90;"
        + "case q a civil 0 90;case r a crime 1 90;case s b civil 0 10;case t b crime 4 10;");
    x.set(0, 0, 1);
    x.set(2, 0, 1);
    Check.due("the other case keeps him there: a quarrel", x.fairer(0), -1);
    x.clear(2);
    x.set(2, 0, 2);
    Check.due("the case without it: he isn't there then", x.fairer(0), 0);
    Check.due("fairer(1)", x.fairer(1), 1);
    x.set(3, 1, 3);
    Check.due("judge 1 is elsewhere", x.fairer(1), 2);
  }

  private static void even() {
    SisterCourts x = Check.told("town a;judge j a 600 civil;judge k a 600 civil;judge l a 600 civil;"
        + "case p a civil 0 50;case q a civil 0 50;case r a civil 0 50;case s a civil 0 50;");
    Check.due("set", x.set(0, 0, 0) && x.set(1, 0, 0) && x.set(2, 0, 0) && x.set(3, 0, 1), true);
    Check.due("even(0)", x.even(0), -1);
    Check.due("even(-1)", x.even(-1), -1);
    Check.due("even(51)", x.even(51), -1);
    Check.due("no acts", x.count(4), 4);
    Check.due("even(1)", x.even(1), 1);
    Check.due("load(0)", x.load(0), 150);
    Check.due("load(1)", x.load(1), 50);
    Check.due("even(50)", x.even(50), 1);
    Check.due("load(0)", x.load(0), 100);
    Check.due("load(2)", x.load(2), 50);
    Check.due("the day stays", x.file(0, 6), 0);
    Check.due("even(50)", x.even(50), 0);
    Check.due("acts, that of which nothing came too", x.count(4), 7);
    Check.due("undo()", x.undo(), 6);
    Check.due("undo()", x.undo(), 5);
    Check.due("load(0)", x.load(0), 150);
  }

  private static void lentAndOwed() {
    SisterCourts x = Check.told("town a;town b;town c;road a b 1;judge j a 600 civil;"
        + "judge k b 600 civil;judge l a 600 civil;case p b civil 0 10;case q b civil 0 20;"
        + "case r a civil 0 40;case s a civil 0 80;case t c civil 0 160;");
    x.set(0, 0, 0);
    x.set(1, 2, 0);
    x.set(2, 1, 5);
    x.set(3, 0, 9);
    int[][] due = {{-1, 30, 0}, {40, -1, 0}, {0, 0, -1}};
    for (int from = 0; from < 3; from++) {
      for (int to = 0; to < 3; to++) {
        Check.due("lent(" + from + ", " + to + ")", x.lent(from, to), due[from][to]);
      }
    }
    Check.due("lent(3, 0)", x.lent(3, 0), -1);
    Check.due("lent(0, 3)", x.lent(0, 3), -1);
    Check.due("lent(-1, 0)", x.lent(-1, 0), -1);
    Check.due("lent(0, -1)", x.lent(0, -1), -1);
    Check.due("owed(0)", x.owed(0), 10);
    Check.due("owed(1)", x.owed(1), -10);
    Check.due("owed(2)", x.owed(2), 0);
    Check.dueNoSuch("owed(3)", () -> x.owed(3));
    Check.dueNoSuch("owed(-1)", () -> x.owed(-1));
    Check.due("payments()", x.payments(), 1);
  }

  private static void payments() {
    SisterCourts x = Check.told("town a;town b;town c;town d;town e;judge j a 600 civil;"
        + "judge k b 600 civil;case p b civil 0 30;case q c civil 1 20;case r d civil 1 10;"
        + "case s e civil 0 40;");
    Check.due("nothing lent", x.payments(), 0);
    x.set(1, 0, 0);
    Check.due("none may be ahead of the day filed", x.payments(), 0);
    x.set(1, 0, 1);
    Check.due("c owes a", x.payments(), 1);
    x.set(2, 1, 1);
    Check.due("c owes a, d owes b", x.payments(), 2);
    SisterCourts y = Check.told("town a;town b;town c;town d;town e;judge j a 600 civil;"
        + "judge k b 600 civil;judge l a 600 civil;judge m b 600 civil;judge n a 600 civil;"
        + "case p c civil 0 30;case q d civil 0 20;case r e civil 0 10;case s e civil 0 40;");
    y.set(0, 0, 0);
    y.set(1, 2, 0);
    Check.due("c and d owe a", y.payments(), 2);
    y.set(2, 1, 0);
    Check.due("a -50, b -10, c 30, d 20, e 10: two groups", y.payments(), 3);
    y.clear(2);
    y.set(3, 1, 0);
    Check.due("a -50, b -40, c 30, d 20, e 40: two groups", y.payments(), 3);
    y.set(2, 1, 0);
    Check.due("a -50, b -50, c 30, d 20, e 50: two groups", y.payments(), 3);
    SisterCourts z = Check.told("town a;town b;town c;town d;town e;judge j a 600 civil;"
        + "judge k b 600 civil;judge l a 600 civil;case p c civil 0 30;case q d civil 0 25;"
        + "case r e civil 0 10;");
    z.set(0, 0, 0);
    z.set(1, 2, 0);
    z.set(2, 1, 0);
    Check.due("a -55, b -10, c 30, d 25, e 10", z.payments(), 3);
    SisterCourts w = Check.told("town a;town b;town c;town d;town e;judge j a 600 civil;"
        + "judge k b 600 civil;judge l b 600 civil;judge m a 600 civil;case p c civil 0 30;"
        + "case q d civil 0 25;case r e civil 0 11;");
    w.set(0, 0, 0);
    w.set(1, 1, 0);
    w.set(2, 2, 0);
    Check.due("a -30, b -36, c 30, d 25, e 11: two groups", w.payments(), 3);
    w.clear(2);
    w.set(2, 3, 0);
    Check.due("a -41, b -25, c 30, d 25, e 11: two groups", w.payments(), 3);
    SisterCourts v = Check.told("town a;town b;town c;town d;town e;judge j a 600 civil;"
        + "judge k b 600 civil;judge l b 600 civil;judge m a 600 civil;case p c civil 0 30;"
        + "case q d civil 0 25;case r e civil 0 11;case s e civil 0 12;");
    v.set(0, 0, 0);
    v.set(1, 1, 0);
    v.set(2, 2, 0);
    v.set(3, 3, 0);
    Check.due("a -42, b -36, c 30, d 25, e 23: no part is even", v.payments(), 4);
    SisterCourts u = Check.told("town a;town b;judge j a 600 civil;judge k b 600 civil;"
        + "case p a civil 0 30;case q b civil 0 30;");
    u.set(0, 1, 0);
    u.set(1, 0, 0);
    Check.due("lent(0, 1)", u.lent(0, 1), 30);
    Check.due("lent as much each way", u.payments(), 0);
  }

  private static SisterCourts threeLoads() {
    SisterCourts x = Check.told("town a;judge j a 600 civil;judge k a 600 civil;judge l a 600 civil;"
        + "judge m a 600 land;case p a civil 0 100;case q a civil 3 33;case r a civil 5 11;");
    x.set(0, 0, 6);
    x.set(1, 1, 10);
    return x;
  }

  private static void share() {
    SisterCourts x = threeLoads();
    Check.due("share(0)", x.share(0), Float.floatToIntBits(100f / 133f));
    Check.due("share(1)", x.share(1), Float.floatToIntBits(33f / 133f));
    Check.due("share(2)", x.share(2), Float.floatToIntBits(0f));
    Check.due("share(4)", x.share(4), Integer.MIN_VALUE);
    Check.due("share(-1)", x.share(-1), Integer.MIN_VALUE);
    x.clear(1);
    Check.due("all of it", x.share(0), Float.floatToIntBits(1f));
    x.clear(0);
    Check.due("all are 0", x.share(0), Float.floatToIntBits(Float.NaN));
  }

  private static void spread() {
    SisterCourts x = threeLoads();
    double m = 133.0 / 4.0;
    double due = ((100 - m) * (100 - m) + (33 - m) * (33 - m) + (0 - m) * (0 - m)
        + (0 - m) * (0 - m)) / 4.0;
    Check.due("spread()", x.spread(), Double.doubleToLongBits(due));
    SisterCourts y = Check.told("town a;judge j a 600 civil;judge k a 600 civil;judge l a 600 civil;"
        + "case p a civil 0 10;case q a civil 0 11;case r a civil 0 11;");
    Check.due("all 0", y.spread(), 0);
    y.set(0, 0, 0);
    y.set(1, 1, 0);
    y.set(2, 2, 0);
    double n = 32.0 / 3.0;
    double small = ((10 - n) * (10 - n) + (11 - n) * (11 - n) + (11 - n) * (11 - n)) / 3.0;
    Check.due("below 1", y.spread(), Double.doubleToLongBits(small));
    Check.due("no judges", Check.told("town a;").spread(), Double.doubleToLongBits(Double.NaN));
  }

  private static void waited() {
    SisterCourts x = threeLoads();
    Check.due("6 and 7", x.waited(), 650);
    x.set(2, 2, 12);
    Check.due("20 by 3", x.waited(), 666);
    x.clear(0);
    x.clear(1);
    Check.due("7", x.waited(), 700);
    x.clear(2);
    Check.due("none", x.waited(), -1);
    x.set(0, 0, 0);
    Check.due("heard at once", x.waited(), 0);
  }
}
