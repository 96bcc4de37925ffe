/**
 * Each sentence of the document that names a boundary case, with a test of its own: the best of a day
 * (==== 2, promises 14 to 16).
 */
public final class BoundsBestTest {
  private static final String ONE = "town a;judge j a 100 civil;judge k a 60 land civil;case c a civil 5 50;"
      + "case d a land 0 10;case e a civil 60 60;";

  public static void main(String[] args) {
    howManyAsked();
    notSoMany();
    onlyTheOldest();
    asItMayThen();
    mostAreHeard();
    loadsAreLeast();
    theFirst();
    best();
    bestOthers();
    bestOf();
    bestOfOthers();
    take();
    takeOthers();
    Check.end();
  }

  private static String who(SisterCourts x, int day, int n) {
    StringBuilder all = new StringBuilder();
    for (int i = 0; x.bestOf(day, n, i) != -2 && i < 9; i++) {
      all.append(i == 0 ? "" : " ").append(x.bestOf(day, n, i));
    }
    return all.toString();
  }

  private static String cases(int many) {
    StringBuilder text = new StringBuilder();
    for (int i = 0; i < many; i++) {
      text.append("case x").append((char) ('a' + i)).append(" a civil 0 10;");
    }
    return text.toString();
  }

  private static void howManyAsked() {
    Check.sentence(0, "BEST of a DAY for n CASES (0 to 5)");
    SisterCourts x = Check.told("town a;judge j a 600 civil;" + cases(12));
    for (int n = 0; n <= 5; n++) {
      Check.due("best(0, " + n + ", 0)", x.best(0, n, 0), n);
      Check.due("best(0, " + n + ", 1)", x.best(0, n, 1), 10 * n);
      Check.due("who", who(x, 0, n), " 0".repeat(n).trim());
    }
    for (int n : new int[] {-1, -2, 6, 7, 12, Integer.MIN_VALUE, Integer.MAX_VALUE}) {
      Check.due("best(0, " + n + ", 0)", x.best(0, n, 0), -1);
      Check.due("bestOf(0, " + n + ", 0)", x.bestOf(0, n, 0), -2);
      Check.due("take(0, " + n + ")", x.take(0, n), -1);
    }
    Check.due("nothing is set", x.count(3) + x.count(4), 0);
  }

  private static void notSoMany() {
    Check.sentence(0, "(all, if there are not so many)");
    SisterCourts x = Check.told("town a;judge j a 600 civil;" + cases(4) + "case y a civil 9 10;");
    Check.due("four of five", x.best(8, 5, 0), 4);
    Check.due("who", who(x, 8, 5), "0 0 0 0");
    Check.due("five of five", x.best(9, 5, 0), 5);
    Check.sit(x, 0, 0, 0, 1, 0, 0, 2, 0, 0);
    Check.due("one of two", x.best(8, 2, 0), 1);
    Check.due("who", who(x, 8, 2), "0");
    Check.sit(x, 3, 0, 0);
    Check.due("none of five", x.best(8, 5, 0), 0);
    Check.due("who", who(x, 8, 5), "");
    Check.due("the loads as they are", x.best(8, 5, 1), 40);
  }

  private static void onlyTheOldest() {
    Check.sentence(0, "each of the n OLDEST that are OPEN");
    SisterCourts x = Check.told("town a;judge j a 60 civil;case c a civil 9 60;case d a land 3 10;"
        + "case e a land 3 10;case f a civil 60 10;");
    Check.due("the two oldest can't be heard, the third is not asked", x.best(9, 2, 0), 0);
    Check.due("who", who(x, 9, 2), "-1 -1");
    Check.due("all three", x.best(9, 3, 0), 1);
    Check.due("the third is the youngest", who(x, 9, 3), "-1 -1 0");
    Check.due("the day ahead", who(x, 8, 3), "-1 -1");
  }

  private static void asItMayThen() {
    Check.sentence(0, "set by AGE one behind the other, each as it MAY then");
    SisterCourts full = Check.told("town a;judge j a 100 civil;case c a civil 0 50;case d a civil 0 50;"
        + "case e a civil 0 10;");
    Check.due("three do not fit into his day, two do", full.best(0, 3, 0), 2);
    Check.due("what fits is just his day", full.best(0, 2, 0), 2);
    SisterCourts towns = Check.told("town a;town b;road a b 0;judge j a 600 civil;case c a civil 0 50;"
        + "case d b civil 0 10;");
    Check.due("he can't be in both", towns.best(0, 2, 0), 1);
    SisterCourts quarrel = Check.told("town a;judge j a 60 civil;judge k a 60 civil;quarrel j k;"
        + "case c a civil 0 60;case d a civil 0 60;");
    Check.due("they do not sit in one town", quarrel.best(0, 2, 0), 1);
    SisterCourts other = Check.told("town a;town b;road a b 3;judge j a 600 civil;case c a civil 0 50;"
        + "case d b civil 0 10;");
    Check.sit(other, 0, 0, 10);
    Check.due("a sitting of another day is too near", other.best(13, 1, 0), 0);
    Check.due("a sitting of another day is far enough", other.best(14, 1, 0), 1);
    SisterCourts barred = Check.told("town a;judge j a 600 civil;case c a civil 0 50 bars j;case d a land 0 10;");
    Check.due("barred, none of his sorts", barred.best(0, 2, 0), 0);
  }

  private static void mostAreHeard() {
    Check.sentence(0, "those by which most are heard");
    SisterCourts x = Check.told("town a;judge j a 100 civil;case c a civil 0 100;case d a civil 1 50;"
        + "case e a civil 2 50;");
    Check.due("two rather than the oldest", who(x, 2, 3), "-1 0 0");
    SisterCourts y = Check.told("town a;judge j a 600 civil;judge k a 600 civil;case c a civil 0 300;"
        + "case d a civil 1 10;");
    Check.sit(y, 0, 0, 0);
    Check.due("though loads are less if nobody hears it", y.best(1, 1, 0), 1);
    SisterCourts z = Check.told("town a;judge j a 60 civil;judge k a 60 civil crime;case c a civil 0 60;"
        + "case d a crime 0 60;");
    Check.due("the first leaves the second his judge", who(z, 0, 2), "0 1");
    SisterCourts w = Check.told("town a;judge j a 60 civil crime;judge k a 60 civil;case c a civil 0 60;"
        + "case d a crime 0 60;");
    Check.due("the first leaves the second his judge", who(w, 0, 2), "1 0");
  }

  private static void loadsAreLeast() {
    Check.sentence(0, "the LOADS of all JUDGES, the greatest first, are compared, the first unlike one less");
    SisterCourts greatest = Check.told("town a;judge j a 600 civil;judge k a 600 civil;case c a civil 0 30;"
        + "case d a civil 0 20;case e a civil 0 20;");
    Check.due("40, 30 rather than 50, 20", who(greatest, 0, 3), "0 1 1");
    SisterCourts second = Check.told("town a;judge i a 600 land;judge j a 600 civil;judge k a 600 civil;"
        + "case b a land 0 300;case c a civil 0 30;case d a civil 0 20;");
    Check.sit(second, 0, 0, 0);
    Check.due("300, 30, 20 rather than 300, 50, 0", who(second, 0, 2), "1 2");
    SisterCourts last = Check.told("town a;judge h a 600 land;judge i a 600 land;judge j a 600 civil;"
        + "judge k a 600 civil;judge l a 600 civil;case aa a land 0 300;"
        + "case ab a land 0 100;case ac a civil 0 50;case ad a civil 0 20;case ae a civil 0 10;");
    Check.sit(last, 0, 0, 0, 1, 1, 0, 2, 2, 0);
    Check.due("300, 100, 50, 20, 10 rather than 300, 100, 50, 30, 0", who(last, 0, 2), "3 4");
    SisterCourts away = Check.told("town a;town b;road a b 0;judge j b 600 civil;judge k a 600 civil;"
        + "case c a civil 0 50;case d a civil 0 50;");
    Check.due("100 at home rather than 110 and 50", who(away, 0, 2), "1 1");
    SisterCourts nearly = Check.told("town a;town b;road a b 0;judge j b 600 civil;judge k a 600 civil;"
        + "case c a civil 0 61;case d a civil 0 61;");
    Check.due("121 and 61 rather than 122", who(nearly, 0, 2), "0 1");
    SisterCourts sum = Check.told("town a;town b;road a b 0;judge j b 600 civil;judge k a 600 civil;"
        + "case c a civil 0 100;case d a civil 0 70;");
    Check.due("130, 100 rather than 170 though their sum is more", sum.best(0, 2, 1), 130);
    Check.due("who", who(sum, 0, 2), "1 0");
    SisterCourts squares = Check.told("town a;town b;road a b 0;judge j b 600 civil;judge k a 600 civil;"
        + "case c a civil 0 100;case d a civil 0 40;");
    Check.due("100, 100 rather than 140 though their squares are more", who(squares, 0, 2), "1 0");
    SisterCourts heard = Check.told("town a;judge j a 100 civil;case c a civil 0 60;case d a civil 0 50;"
        + "case e a civil 0 70;");
    Check.due("of as many heard the least", who(heard, 0, 3), "-1 0 -1");
  }

  private static void theFirst() {
    Check.sentence(0, "of these the first: CASE by CASE as by AGE, nobody ahead of JUDGE 0, 1, ..");
    SisterCourts nobody = Check.told("town a;judge j a 60 civil;case c a civil 0 60;case d a civil 0 60;"
        + "case e a civil 0 60;");
    Check.due("nobody, nobody, the judge", who(nobody, 0, 3), "-1 -1 0");
    SisterCourts order = Check.told("town a;judge i a 60 land;judge j a 60 civil;judge k a 60 civil;"
        + "judge l a 60 civil;case c a civil 1 60;case d a civil 0 60;case e a civil 1 60;");
    Check.due("the oldest has the first judge", who(order, 1, 3), "1 2 3");
    Check.due("one: the first judge", who(order, 0, 1), "1");
    order.take(1, 3);
    Check.due("by age, not by numbers", Check.judges(order), "2 1 3");
    SisterCourts six = Check.told("town a;judge p a 60 civil;judge q a 60 civil;judge r a 60 civil;"
        + "judge s a 60 civil;judge t a 60 civil;judge u a 60 civil;" + cases(5));
    Check.due("five of six", who(six, 0, 5), "0 1 2 3 4");
  }

  private static void best() {
    Check.sentence(14, "BEST, what 0: how many are heard, 1: the greatest LOAD then, "
        + "2: the sum of squares of all LOADS then;");
    SisterCourts x = Check.told("town a;town b;road a b 0;judge i a 600 land;judge j b 600 civil;"
        + "case f a land 0 300;case c a civil 0 70;case d a land 0 80;case e a crime 0 80;");
    Check.sit(x, 0, 0, 5);
    Check.due("how many", x.best(0, 3, 0), 2);
    Check.due("the greatest load, that of other days in it", x.best(0, 3, 1), 380);
    Check.due("squares", x.best(0, 3, 2), 380L * 380 + 130 * 130);
    Check.due("none are asked", x.best(0, 0, 0), 0);
    Check.due("none are asked: the greatest load", x.best(0, 0, 1), 300);
    Check.due("none are asked: squares", x.best(0, 0, 2), 90000);
    Check.due("without sittings and cases", Check.told("town a;judge j a 60 land;").best(0, 5, 1), 0);
    Check.due("without sittings and cases", Check.told("town a;judge j a 60 land;").best(0, 5, 2), 0);
    Check.due("without judges", Check.told("town a;case c a land 0 10;").best(0, 5, 0), 0);
    Check.due("without judges", Check.told("town a;case c a land 0 10;").best(0, 5, 2), 0);
    SisterCourts most = Check.told("town a;town b;judge j b 600 civil;case aa a civil 0 300;case ab a civil 0 300;"
        + "case ac a civil 0 300;case ad a civil 0 300;case ae a civil 0 300;case af a civil 0 300;"
        + "case ag a civil 0 300;case ah a civil 0 300;case ai a civil 0 300;case aj a civil 0 300;"
        + "case ak a civil 0 300;case al a civil 0 300;");
    for (int file = 0; file < 12; file++) {
      Check.sit(most, file, 0, file);
    }
    Check.due("the greatest load that can be", most.best(60, 5, 1), 4320);
    Check.due("its square", most.best(60, 5, 2), 4320L * 4320);
    Check.due("best sets nothing", x.count(3), 1);
    Check.due("best is no act", x.count(4), 1);
    bestOfAll();
  }

  /** All six judges have loads; then fewer are told, and none of the former loads is left. */
  private static void bestOfAll() {
    for (String next : new String[] {"town a;judge j a 60 land;", "town a;"}) {
      SisterCourts x = Check.told("town a;judge p a 600 civil;judge q a 600 civil;judge r a 600 civil;"
          + "judge s a 600 civil;judge t a 600 civil;judge u a 600 civil;" + cases(6));
      Check.due("six are heard", x.go(0, 0), 6);
      Check.due("squares of six", x.best(0, 5, 2), 600);
      Check.due("the greatest of six", x.best(0, 5, 1), 10);
      Check.tell(x, next);
      Check.due("squares, then " + next, x.best(0, 5, 2), 0);
      Check.due("the greatest, then " + next, x.best(0, 5, 1), 0);
    }
  }

  private static void bestOthers() {
    Check.sentence(14, "NONE: others.");
    SisterCourts x = Check.told(ONE);
    for (int what : new int[] {-1, -2, 3, 4, Integer.MIN_VALUE, Integer.MAX_VALUE}) {
      Check.due("best(5, 2, " + what + ")", x.best(5, 2, what), -1);
    }
    for (int what = 0; what <= 2; what++) {
      for (int day : new int[] {-1, 61, Integer.MIN_VALUE, Integer.MAX_VALUE}) {
        Check.due("best(" + day + ", 2, " + what + ")", x.best(day, 2, what), -1);
      }
      for (int n : new int[] {-1, 6, Integer.MIN_VALUE, Integer.MAX_VALUE}) {
        Check.due("best(5, " + n + ", " + what + ")", x.best(5, n, what), -1);
      }
    }
    Check.due("without judges", new SisterCourts().best(0, 6, 1), -1);
    Check.due("nothing came of it", Check.whole(x), Check.whole(Check.told(ONE)));
  }

  private static void bestOf() {
    Check.sentence(15, "The JUDGE who has the i-th of these CASES by BEST (NONE: nobody);");
    SisterCourts x = Check.told("town a;judge j a 100 civil;judge k a 60 land;case c a civil 5 50;"
        + "case d a land 0 10;case e a crime 3 60;");
    Check.due("the oldest", x.bestOf(5, 3, 0), 1);
    Check.due("nobody", x.bestOf(5, 3, 1), -1);
    Check.due("the youngest", x.bestOf(5, 3, 2), 0);
    SisterCourts five = Check.told("town a;judge j a 600 civil;" + cases(6));
    Check.due("the last of five", five.bestOf(0, 5, 4), 0);
    Check.due("bestOf sets nothing", x.count(3) + x.count(4), 0);
  }

  private static void bestOfOthers() {
    Check.sentence(15, "-2: others, no such i.");
    SisterCourts x = Check.told(ONE);
    for (int i : new int[] {2, 3, 4, 5, -1, -2, Integer.MIN_VALUE, Integer.MAX_VALUE}) {
      Check.due("bestOf(5, 2, " + i + ")", x.bestOf(5, 2, i), -2);
      Check.due("two are open: bestOf(5, 5, " + i + ")", x.bestOf(5, 5, i), -2);
    }
    Check.due("of none", x.bestOf(5, 0, 0), -2);
    Check.due("the second of one", x.bestOf(5, 1, 1), -2);
    for (int day : new int[] {-1, 61, Integer.MIN_VALUE, Integer.MAX_VALUE}) {
      Check.due("bestOf(" + day + ", 2, 0)", x.bestOf(day, 2, 0), -2);
    }
    for (int n : new int[] {-1, 6, Integer.MIN_VALUE, Integer.MAX_VALUE}) {
      Check.due("bestOf(5, " + n + ", 0)", x.bestOf(5, n, 0), -2);
    }
    SisterCourts five = Check.told("town a;judge j a 600 civil;" + cases(6));
    Check.due("the sixth of five", five.bestOf(0, 5, 5), -2);
  }

  private static void take() {
    Check.sentence(16, "BEST is set: how many SITTINGS;");
    SisterCourts x = Check.told("town a;judge j a 100 civil;case c a civil 0 100;case d a civil 1 50;"
        + "case e a civil 2 50;case f a civil 3 10;");
    Check.due("two of three", x.take(2, 3), 2);
    Check.due("who", Check.judges(x), "-1 0 0 -1");
    Check.due("when", Check.days(x), "-1 2 2 -1");
    Check.due("one act", x.count(4), 1);
    Check.due("none, that day is full", x.take(3, 0) + x.take(2, 5), 0);
    Check.due("what was set stays", Check.days(x), "-1 2 2 -1");
    Check.due("on another day, one of two", x.take(60, 5), 1);
    Check.due("the one of which loads are less", Check.days(x), "-1 2 2 60");
    SisterCourts five = Check.told("town a;judge j a 600 civil;" + cases(6));
    Check.due("five of six", five.take(0, 5), 5);
    Check.due("the sixth", five.take(0, 5), 1);
    Check.due("no more", five.take(0, 5), 0);
    Check.due("without cases", Check.told("town a;judge j a 60 civil;").take(0, 5), 0);
    Check.due("without judges", Check.told("town a;case c a civil 0 10;").take(0, 5), 0);
  }

  private static void takeOthers() {
    Check.sentence(16, "NONE: others.");
    SisterCourts x = Check.told(ONE);
    for (int day : new int[] {-1, 61, Integer.MIN_VALUE, Integer.MAX_VALUE}) {
      Check.due("take(" + day + ", 2)", x.take(day, 2), -1);
    }
    for (int n : new int[] {-1, 6, Integer.MIN_VALUE, Integer.MAX_VALUE}) {
      Check.due("take(5, " + n + ")", x.take(5, n), -1);
    }
    Check.due("nothing came of it", Check.whole(x), Check.whole(Check.told(ONE)));
  }
}
