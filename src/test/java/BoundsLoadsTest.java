/**
 * Each sentence of the document that names a boundary case, with a test of its own: loads, fairer ones,
 * what towns lent, floats and doubles (==== 2, promises 17 to 26).
 */
public final class BoundsLoadsTest {
  private static final String ONE = "town a;town b;road a b 2;judge j a 100 civil;judge k b 60 land civil;"
      + "case c a civil 5 50;case d b land 0 10;case e b civil 60 60;";

  public static void main(String[] args) {
    loads();
    load();
    ranked();
    givenToAnother();
    givenIfItMay();
    theCaseWithoutIt();
    lessThanAhead();
    ofAllSuchTheLeast();
    ofLikeOnes();
    fairer();
    even();
    evenOthers();
    lent();
    lentOthers();
    owed();
    payments();
    share();
    shareOthers();
    spread();
    waited();
    Check.end();
  }

  // ---- loads

  private static void loads() {
    Check.sentence(0, "LOAD of a JUDGE: MINUTES of all his SITTINGS, and 60 for each DAY on which he SITS in a TOWN "
        + "that is not his HOME.");
    SisterCourts x = Check.told("town a;town b;road a b 0;judge j a 600 civil;judge k b 600 civil;"
        + "case c b civil 0 10;case d b civil 0 20;case e b civil 0 40;case f a civil 0 80;case g a civil 0 160;");
    Check.due("no sittings", Check.loads(x), "0 0");
    Check.sit(x, 1, 0, 0);
    Check.due("away on day 0", Check.loads(x), "80 0");
    Check.sit(x, 0, 0, 0);
    Check.due("twice away on one day is one day", Check.loads(x), "90 0");
    Check.sit(x, 2, 0, 60);
    Check.due("another day, the last", Check.loads(x), "190 0");
    Check.sit(x, 3, 0, 30);
    Check.due("at home", Check.loads(x), "270 0");
    Check.sit(x, 4, 1, 0);
    Check.due("the other one is away where the first is at home", Check.loads(x), "270 220");
    x.clear(0);
    Check.due("one of two of a day away is cleared", Check.loads(x), "260 220");
    x.clear(1);
    Check.due("the other one, too", Check.loads(x), "180 220");
    SisterCourts noWay = Check.told("town a;town b;judge j a 600 civil;case c b civil 0 10;");
    Check.sit(noWay, 0, 0, 3);
    Check.due("away where no way leads", noWay.load(0), 70);
  }

  private static void load() {
    Check.sentence(17, "LOAD; NONE: none such.");
    SisterCourts x = Check.told(ONE);
    Check.due("0", x.load(0), 0);
    Check.sit(x, 2, 1, 60);
    Check.due("the last judge", x.load(1), 60);
    for (int none : new int[] {-1, -2, 2, 5, 6, Integer.MIN_VALUE, Integer.MAX_VALUE}) {
      Check.due("load(" + none + ")", x.load(none), -1);
    }
    Check.due("no judges", new SisterCourts().load(0), -1);
    Check.due("the seventh of six", sixJudges("").load(6), -1);
    Check.due("the sixth", sixJudges("").load(5), 0);
  }

  private static SisterCourts sixJudges(String cases) {
    return Check.told("town a;judge p a 600 civil;judge q a 600 civil;judge r a 600 civil;judge s a 600 civil;"
        + "judge t a 600 civil;judge u a 600 civil;" + cases);
  }

  private static String cases(int... minutes) {
    StringBuilder text = new StringBuilder();
    for (int i = 0; i < minutes.length; i++) {
      text.append("case c").append((char) ('a' + i)).append(" a civil 0 ").append(minutes[i]).append(';');
    }
    return text.toString();
  }

  private static void ranked() {
    Check.sentence(18, "The k-th JUDGE by LOAD (the greatest first, of like ones by numbers); NONE: none such.");
    SisterCourts like = sixJudges("");
    SisterCourts x = sixJudges(cases(10, 20, 20, 30, 10));
    Check.sit(x, 0, 0, 0, 1, 1, 0, 2, 5, 0, 3, 3, 0, 4, 4, 0);
    int[] due = {3, 1, 5, 0, 4, 2};
    for (int k = 0; k < 6; k++) {
      Check.due("like ones: ranked(" + k + ")", like.ranked(k), k);
      Check.due("ranked(" + k + ")", x.ranked(k), due[k]);
    }
    for (int k : new int[] {-1, -2, 6, 7, Integer.MIN_VALUE, Integer.MAX_VALUE}) {
      Check.due("ranked(" + k + ")", x.ranked(k), -1);
    }
    Check.due("the third of two", Check.told(ONE).ranked(2), -1);
    Check.due("the second of two", Check.told(ONE).ranked(1), 1);
    Check.due("no judges", Check.told("town a;").ranked(0), -1);
  }

  // ---- fairer ones

  private static String fairer(SisterCourts x) {
    return x.fairer(0) + " to " + x.fairer(1);
  }

  private static void givenToAnother() {
    Check.sentence(0, "FAIRER: a SITTING is given to another JUDGE, the same DAY");
    SisterCourts x = sixJudges(cases(50, 50));
    Check.due("no sittings", fairer(x), "-1 to -1");
    Check.sit(x, 0, 1, 7, 1, 1, 60);
    Check.due("the first", fairer(x), "0 to 0");
    Check.due("done", x.even(1), 1);
    Check.due("judges", Check.judges(x), "0 1");
    Check.due("the days stay", Check.days(x), "7 60");
    SisterCourts one = Check.told("town a;judge j a 600 civil;" + cases(50, 50));
    Check.sit(one, 0, 0, 7, 1, 0, 60);
    Check.due("there is no other judge", fairer(one), "-1 to -1");
    SisterCourts day = Check.told("town a;judge j a 600 civil;judge k a 60 civil land;" + cases(50, 50)
        + "case x a land 0 11;case y a land 0 11;");
    Check.sit(day, 0, 0, 7, 1, 0, 8, 2, 1, 7);
    Check.due("on the first's day he has no room, on the second's he has", fairer(day), "1 to 1");
    Check.sit(day, 3, 1, 8);
    Check.due("on neither day", fairer(day), "-1 to -1");
  }

  private static void givenIfItMay() {
    Check.sentence(0, "if it MAY be so");
    String two = "case c a civil 0 50%;case d a civil 0 50%;";
    String free = "town a;town b;road a b 0;judge j a 600 civil;judge k a 100 civil;";
    SisterCourts may = Check.told(free + two.replace("%", ""));
    Check.sit(may, 0, 0, 7, 1, 0, 7);
    Check.due("it may", fairer(may), "0 to 1");
    SisterCourts sort = Check.told(free.replace("100 civil", "100 land") + two.replace("%", ""));
    Check.sit(sort, 0, 0, 7, 1, 0, 7);
    Check.due("none of his sorts", fairer(sort), "-1 to -1");
    SisterCourts barred = Check.told(free + two.replace("%", " bars k"));
    Check.sit(barred, 0, 0, 7, 1, 0, 7);
    Check.due("barred", fairer(barred), "-1 to -1");
    SisterCourts elsewhere = Check.told(free + two.replace("%", "") + "case e b civil 0 10 bars j;");
    Check.sit(elsewhere, 0, 0, 7, 1, 0, 7, 2, 1, 7);
    Check.due("he is elsewhere", fairer(elsewhere), "-1 to -1");
    SisterCourts quarrel = Check.told(free + "quarrel j k;" + two.replace("%", ""));
    Check.sit(quarrel, 0, 0, 7, 1, 0, 7);
    Check.due("a quarrel with him who keeps the other one", fairer(quarrel), "-1 to -1");
    SisterCourts room = Check.told(free + two.replace("%", "") + "case e a civil 0 51 bars j;");
    Check.sit(room, 0, 0, 7, 1, 0, 7, 2, 1, 7);
    Check.due("his minutes would be one more than he has", fairer(room), "-1 to -1");
    SisterCourts just = Check.told(free + "case c a civil 0 50;case d a civil 0 70;case e a civil 0 50 bars j;");
    Check.sit(just, 0, 0, 7, 1, 0, 7, 2, 1, 7);
    Check.due("just what he has", fairer(just), "0 to 1");
  }

  private static void theCaseWithoutIt() {
    Check.sentence(0, "(the CASE without it)");
    SisterCourts x = Check.told("town a;judge j a 600 civil;judge k a 600 civil;quarrel j k;"
        + "case c a civil 0 50;case d a civil 0 60;");
    Check.sit(x, 0, 0, 7, 1, 0, 8);
    Check.due("he with whom the other quarrels sits there no more", fairer(x), "0 to 1");
    Check.due("its own sitting is no reason", x.even(1), 1);
    Check.due("judges", Check.judges(x), "1 0");
  }

  private static void lessThanAhead() {
    Check.sentence(0, "and the LOADS of all, the greatest first, then are less, compared so, than ahead");
    SisterCourts like = Check.told("town a;judge j a 600 civil;judge k a 600 civil;case c a civil 0 50;");
    Check.sit(like, 0, 0, 7);
    Check.due("like loads are not less", fairer(like), "-1 to -1");
    SisterCourts away = Check.told("town a;town b;road a b 0;judge j a 600 civil;judge k b 600 civil;"
        + "case c a civil 0 60;case d a civil 0 100;");
    Check.sit(away, 0, 0, 7, 1, 0, 7);
    Check.due("160, 0 to 120, 100: less", fairer(away), "0 to 1");
    SisterCourts no = Check.told("town a;town b;road a b 0;judge j a 600 civil;judge k b 600 civil;"
        + "case c a civil 0 60;case d a civil 0 60;");
    Check.sit(no, 0, 0, 7, 1, 0, 7);
    Check.due("120, 0 to 120, 60: more", fairer(no), "-1 to -1");
    SisterCourts one = Check.told("town a;town b;road a b 0;judge j a 600 civil;judge k b 600 civil;"
        + "case c a civil 0 60;case d a civil 0 61;");
    Check.sit(one, 0, 0, 7, 1, 0, 7);
    Check.due("121, 0 to 120, 61: one less", fairer(one), "0 to 1");
    SisterCourts home = Check.told("town a;town b;road a b 0;judge j a 600 civil;judge k b 600 civil;"
        + "case c b civil 0 50;");
    Check.sit(home, 0, 0, 7);
    Check.due("110, 0 to 50, 0: no more away", fairer(home), "0 to 1");
    SisterCourts last = sixJudges(cases(100, 90, 80, 70, 60, 10));
    Check.sit(last, 0, 0, 7, 1, 1, 7, 2, 2, 7, 3, 3, 7, 4, 4, 7, 5, 4, 8);
    Check.due("100, 90, 80, 70, 70, 0 to 100, 90, 80, 70, 60, 10", fairer(last), "4 to 5");
    Check.due("that is done, and nothing is left", last.even(50), 1);
  }

  private static void ofAllSuchTheLeast() {
    Check.sentence(0, "of all such that by which they are least");
    SisterCourts x = Check.told("town a;judge j a 600 civil;judge k a 600 civil;" + cases(10, 60, 40, 90));
    Check.sit(x, 0, 0, 1, 1, 0, 1, 2, 0, 1, 3, 0, 1);
    Check.due("200: 110 and 90 rather than others", fairer(x), "3 to 1");
    SisterCourts who = sixJudges(cases(50, 50, 30, 20, 10, 10));
    Check.sit(who, 0, 0, 1, 1, 0, 1, 2, 1, 1, 3, 2, 1, 4, 3, 1, 5, 4, 1);
    Check.due("to him who has least", fairer(who), "0 to 5");
    SisterCourts second = Check.told("town a;judge j a 600 civil;judge k a 600 civil;judge l a 600 civil;"
        + cases(100, 70, 20));
    Check.sit(second, 0, 0, 1, 1, 1, 1, 2, 1, 1);
    Check.due("100, 90, 0 to 100, 70, 20: the greatest stays", fairer(second), "1 to 2");
    SisterCourts squares = Check.told("town a;judge j a 600 civil;judge k a 600 civil;judge l a 600 civil;"
        + cases(45, 90, 45, 10));
    Check.sit(squares, 0, 1, 1, 1, 0, 1, 2, 1, 1, 3, 0, 1);
    Check.due("100, 90, 0 to 90, 90, 10 rather than 100, 45, 45", fairer(squares), "1 to 2");
  }

  private static void ofLikeOnes() {
    Check.sentence(0, "of like ones the first CASE, then the first JUDGE");
    SisterCourts x = sixJudges("case x a land 0 10;" + cases(50, 50, 50));
    Check.sit(x, 1, 5, 9, 2, 5, 8, 3, 5, 7);
    Check.due("the first case, not the first day; the first judge", fairer(x), "1 to 0");
    SisterCourts y = sixJudges(cases(50, 20, 30));
    Check.sit(y, 0, 0, 1, 1, 1, 1, 2, 1, 1);
    Check.due("20 or 30 of him who has both: alike", fairer(y), "1 to 2");
    SisterCourts z = sixJudges(cases(70, 10, 40, 30));
    Check.sit(z, 0, 0, 1, 2, 1, 1, 3, 1, 1);
    Check.due("the first judge who has nothing", fairer(z), "2 to 2");
  }

  private static void fairer() {
    Check.sentence(19, "FAIRER, what 0: the CASE, 1: the JUDGE to whom it is given; NONE: there is none, others.");
    SisterCourts x = sixJudges(cases(50, 50));
    Check.sit(x, 0, 5, 7, 1, 5, 7);
    Check.due("the case", x.fairer(0), 0);
    Check.due("the judge", x.fairer(1), 0);
    for (int what : new int[] {-1, -2, 2, 3, Integer.MIN_VALUE, Integer.MAX_VALUE}) {
      Check.due("fairer(" + what + ")", x.fairer(what), -1);
    }
    Check.due("nothing is done", Check.judges(x), "5 5");
    Check.due("it is no act", x.count(4), 2);
    x.clear(0);
    Check.due("there is none", fairer(x), "-1 to -1");
    Check.due("no judges, no cases", fairer(new SisterCourts()), "-1 to -1");
    SisterCourts twelve = sixJudges(cases(50, 40, 30, 20, 10, 10, 10, 10, 10, 10, 10, 10));
    Check.sit(twelve, 10, 5, 7, 11, 5, 7);
    Check.due("the last cases", fairer(twelve), "10 to 0");
    x.undo();
    Check.due("of judge 5 again", fairer(x), "0 to 0");
  }

  private static void even() {
    Check.sentence(20, "FAIRER ones are done, one by one, n (1 to 50) at most: how many;");
    for (int n = 1; n <= 50; n++) {
      SisterCourts x = sixJudges(cases(10, 10, 10, 10, 10, 10));
      Check.sit(x, 0, 0, 1, 1, 0, 1, 2, 0, 1, 3, 0, 1, 4, 0, 1, 5, 0, 1);
      int due = Math.min(n, 5);
      Check.due("even(" + n + ")", x.even(n), due);
      Check.due("the load that is left after even(" + n + ")", x.load(0), 60 - 10 * due);
      Check.due("one act more", x.count(4), 7);
      Check.due("the rest", x.even(50), 5 - due);
      Check.due("all are alike", Check.loads(x), "10 10 10 10 10 10");
      Check.due("none is left", x.even(n), 0);
      Check.due("an act each, though nothing comes of it", x.count(4), 9);
    }
    SisterCourts y = sixJudges(cases(10, 10, 10, 10, 10, 10));
    Check.sit(y, 0, 0, 1, 1, 0, 1, 2, 0, 1, 3, 0, 1, 4, 0, 1, 5, 0, 1);
    y.even(50);
    Check.due("one by one, the first case, the first judge", Check.judges(y), "1 2 3 4 5 0");
    Check.due("no cases", Check.told("town a;judge j a 60 land;").even(50), 0);
    Check.due("no judges", new SisterCourts().even(50), 0);
  }

  private static void evenOthers() {
    Check.sentence(20, "NONE: another n.");
    SisterCourts x = Check.told(ONE);
    for (int n : new int[] {0, -1, 51, 52, Integer.MIN_VALUE, Integer.MAX_VALUE}) {
      Check.due("even(" + n + ")", x.even(n), -1);
    }
    Check.due("nothing came of it", Check.whole(x), Check.whole(Check.told(ONE)));
    SisterCourts y = sixJudges(cases(50, 50));
    Check.sit(y, 0, 5, 7, 1, 5, 7);
    Check.due("0 at most", y.even(0), -1);
    Check.due("51 at most", y.even(51), -1);
    Check.due("though one could be done", Check.judges(y), "5 5");
  }

  // ---- towns

  private static void lent() {
    Check.sentence(0, "LENT by a TOWN to another one: MINUTES of SITTINGS there of JUDGES whose HOME it is.");
    SisterCourts x = Check.told("town a;town b;town d;road a b 0;judge j a 600 civil;judge k b 600 civil;"
        + "judge l a 600 civil;case ca b civil 0 10;case cb b civil 0 20;case cc a civil 0 40;case cd a civil 0 80;"
        + "case ce d civil 0 160;");
    Check.due("nothing yet", x.lent(0, 1), 0);
    Check.sit(x, 0, 0, 3, 1, 2, 3);
    Check.due("by both judges, without what a day away adds to a load", x.lent(0, 1), 30);
    Check.due("not the other way", x.lent(1, 0), 0);
    Check.sit(x, 2, 0, 5);
    Check.due("at home is nothing lent", x.lent(0, 1) + x.lent(1, 0), 30);
    Check.sit(x, 3, 1, 5);
    Check.due("the other way", x.lent(1, 0), 80);
    Check.due("to the third one", x.lent(0, 2), 0);
    Check.due("a case without a sitting is nothing", x.lent(1, 2), 0);
    Check.due("by the third one", x.lent(2, 0), 0);
    x.clear(0);
    Check.due("cleared", x.lent(0, 1), 20);
    SisterCourts full = Check.told("town a;town b;judge j b 600 civil;"
        + cases(10, 11, 12, 13, 14, 15, 16, 17, 18, 19, 20, 21));
    Check.due("by none of twelve", full.lent(1, 0), 0);
    Check.sit(full, 11, 0, 0);
    Check.due("by the last of twelve", full.lent(1, 0), 21);
    Check.due("all twelve are heard", full.go(0, 60), 11);
    Check.due("by all twelve", full.lent(1, 0), 186);
    Check.due("one payment for all twelve", full.payments(), 1);
  }

  private static void lentOthers() {
    Check.sentence(21, "LENT; NONE: others (a TOWN to itself, too).");
    SisterCourts x = Check.told(ONE);
    Check.due("0", x.lent(0, 1), 0);
    Check.due("to itself", x.lent(0, 0), -1);
    Check.due("to itself", x.lent(1, 1), -1);
    for (int none : new int[] {-1, 2, 4, 5, Integer.MIN_VALUE, Integer.MAX_VALUE}) {
      Check.due("lent(" + none + ", 0)", x.lent(none, 0), -1);
      Check.due("lent(0, " + none + ")", x.lent(0, none), -1);
      Check.due("lent(" + none + ", " + none + ")", x.lent(none, none), -1);
    }
    SisterCourts five = Check.told("town a;town b;town d;town e;town f;judge j f 600 civil;case c a civil 0 300;");
    Check.sit(five, 0, 0, 0);
    Check.due("by the last", five.lent(4, 0), 300);
    Check.due("by the sixth", five.lent(5, 0), -1);
    Check.due("to the sixth", five.lent(4, 5), -1);
  }

  private static void owed() {
    Check.sentence(0, "OWED by a TOWN: MINUTES LENT to it less those that it LENT.");
    SisterCourts x = Check.told("town a;town b;town d;judge j a 600 civil;judge k b 600 civil;judge l a 600 civil;"
        + "case c b civil 0 300;case e a civil 0 200;case f d civil 0 11;case g a civil 0 50;");
    for (int town = 0; town < 3; town++) {
      Check.due("nothing yet", x.owed(town), 0);
    }
    Check.sit(x, 0, 0, 0);
    Check.due("below 0", x.owed(0), -300);
    Check.due("above 0", x.owed(1), 300);
    Check.sit(x, 1, 1, 0);
    Check.due("less what it lent", x.owed(0), -100);
    Check.due("less what it lent", x.owed(1), 100);
    Check.sit(x, 2, 2, 0);
    Check.due("to two", x.owed(0), -111);
    Check.due("the third", x.owed(2), 11);
    x.clear(2);
    Check.sit(x, 3, 2, 0);
    Check.due("at home is nothing owed", x.owed(0), -100);
    Check.sentence(22, "OWED (it may be below 0); NoSuchElementException: none such.");
    Check.due("below 0", x.owed(0) < 0, true);
    for (int none : new int[] {-1, 3, 4, 5, Integer.MIN_VALUE, Integer.MAX_VALUE}) {
      Check.dueNoSuch("owed(" + none + ")", () -> x.owed(none));
    }
    Check.dueNoSuch("no towns", () -> new SisterCourts().owed(0));
    SisterCourts five = Check.told("town a;town b;town d;town e;town f;");
    Check.due("the fifth", five.owed(4), 0);
    Check.dueNoSuch("the sixth", () -> five.owed(5));
  }

  /** Judges of towns a and b, one for each case; the cases are of towns c, d and e. */
  private static SisterCourts lending(String homes, String towns, int... minutes) {
    StringBuilder text = new StringBuilder("town a;town b;town c;town d;town e;");
    for (int i = 0; i < minutes.length; i++) {
      text.append("judge j").append((char) ('a' + i)).append(' ').append(homes.charAt(i)).append(" 600 land;");
    }
    for (int i = 0; i < minutes.length; i++) {
      text.append("case c").append((char) ('a' + i)).append(' ').append(towns.charAt(i)).append(" land 0 ")
          .append(minutes[i]).append(';');
    }
    SisterCourts x = Check.told(text.toString());
    for (int i = 0; i < minutes.length; i++) {
      Check.sit(x, i, i, 0);
    }
    return x;
  }

  private static void payments() {
    Check.sentence(0, "PAYMENTS: the fewest, each of any sum from one TOWN to another one, by which all is even.");
    Check.due("no towns", new SisterCourts().payments(), 0);
    SisterCourts one = Check.told("town a;judge j a 600 civil;case c a civil 0 10;");
    Check.due("one town", one.payments(), 0);
    Check.sit(one, 0, 0, 0);
    Check.due("one town, and a sitting", one.payments(), 0);
    Check.due("nothing lent", Check.told("town a;town b;town c;town d;town e;").payments(), 0);
    Check.due("at home", lending("a", "a", 30).payments(), 0);
    Check.due("c owes a", lending("a", "c", 30).payments(), 1);
    Check.due("as much each way", lending("ac", "ca", 30, 30).payments(), 0);
    Check.due("not as much each way", lending("ac", "ca", 30, 31).payments(), 1);
    Check.due("round: each owes as much as it lent", lending("abc", "bca", 30, 30, 30).payments(), 0);
    Check.due("along: the middle one is even", lending("ab", "bc", 30, 30).payments(), 1);
    Check.due("along: the middle one is not even", lending("ab", "bc", 30, 40).payments(), 2);
    Check.due("two pairs", lending("ab", "cd", 30, 40).payments(), 2);
    Check.due("two pairs, crosswise as well", lending("ab", "cd", 30, 30).payments(), 2);
    Check.due("a to c, d", lending("aa", "cd", 30, 40).payments(), 2);
    Check.due("a 30, b 20; c 30, d 20: two pairs, not as lent", lending("aab", "cdc", 10, 20, 20).payments(), 2);
    Check.due("a 70, b 50; c 30, d 40, e 50: a pair and three", lending("aab", "cde", 30, 40, 50).payments(), 3);
    Check.due("a 60, b 10; c 20, d 25, e 25: no part is even", lending("abaa", "ccde", 10, 10, 25, 25)
        .payments(), 4);
    Check.due("a 20, b 20; c 10, d 10, e 20: a pair and three", lending("aabb", "cdee", 10, 10, 10, 10)
        .payments(), 3);
    Check.due("a 42, b 36; c 30, d 25, e 23: no part is even", lending("abab", "cdee", 30, 25, 12, 11).payments(), 4);
    Check.due("one to four others", lending("aaaa", "bcde", 10, 10, 10, 10).payments(), 4);
    Check.sentence(23, "How many PAYMENTS.");
    SisterCourts x = lending("aaaa", "bcde", 10, 10, 10, 10);
    for (int left = 3; left >= 0; left--) {
      x.clear(left);
      Check.due("one cleared", x.payments(), left);
    }
  }

  // ---- floats and doubles

  private static void share() {
    Check.sentence(24, "(float) LOAD by (float) of all LOADS together, as Float.floatToIntBits");
    int[] minutes = {10, 11, 13, 17, 29, 31, 64, 77, 97, 100, 128, 199, 256, 299, 300};
    for (int one : minutes) {
      for (int other : minutes) {
        SisterCourts x = sixJudges(cases(one, other));
        Check.sit(x, 0, 0, 1, 1, 5, 1);
        String told = one + " and " + other;
        Check.due(told, x.share(0), Float.floatToIntBits((float) one / (float) (one + other)));
        Check.due(told, x.share(5), Float.floatToIntBits((float) other / (float) (one + other)));
        Check.due("none of it", x.share(1), 0);
      }
    }
    SisterCourts all = sixJudges(cases(10));
    Check.sit(all, 0, 2, 0);
    Check.due("all of it", all.share(2), 0x3f800000);
    Check.due("nothing of it", all.share(0), 0);
    SisterCourts small = Check.told("town a;town b;judge j a 600 land;judge k b 600 civil;case d a land 0 10;"
        + "case aa a civil 0 300;case ab a civil 0 300;case ac a civil 0 300;case ad a civil 0 300;"
        + "case ae a civil 0 300;case af a civil 0 300;case ag a civil 0 300;case ah a civil 0 300;"
        + "case ai a civil 0 300;case aj a civil 0 300;case ak a civil 0 300;");
    Check.sit(small, 0, 0, 0);
    for (int file = 1; file < 12; file++) {
      Check.sit(small, file, 1, file);
    }
    Check.due("the least share that is more than none", small.share(0), Float.floatToIntBits(10f / 3970f));
    Check.due("the other one", small.share(1), Float.floatToIntBits(3960f / 3970f));
  }

  private static void shareOthers() {
    Check.sentence(24, "(that of Float.NaN, if all are 0)");
    SisterCourts x = Check.told(ONE);
    Check.due("all are 0", x.share(0), 0x7fc00000);
    Check.due("all are 0", x.share(1), 0x7fc00000);
    Check.sit(x, 0, 0, 5);
    Check.due("not all are 0", x.share(1), 0);
    x.clear(0);
    Check.due("all are 0 again", x.share(1), 0x7fc00000);
    Check.sentence(24, "Integer.MIN_VALUE: none such.");
    for (int none : new int[] {-1, 2, 5, 6, Integer.MIN_VALUE, Integer.MAX_VALUE}) {
      Check.due("all are 0: share(" + none + ")", x.share(none), Integer.MIN_VALUE);
      Check.due("no judges: share(" + none + ")", new SisterCourts().share(none), Integer.MIN_VALUE);
    }
    Check.sit(x, 0, 0, 5);
    Check.due("not all are 0", x.share(2), Integer.MIN_VALUE);
    Check.due("not all are 0", x.share(-1), Integer.MIN_VALUE);
  }

  private static SisterCourts threeLoads(int... minutes) {
    SisterCourts x = Check.told("town a;judge j a 600 civil;judge k a 600 civil;judge l a 600 civil;"
        + cases(minutes));
    Check.sit(x, 0, 0, 1, 1, 1, 1, 2, 2, 1);
    return x;
  }

  private static void spread() {
    Check.sentence(25, "(LOAD - m) * (LOAD - m) of all, from JUDGE 0 on, together, by how many");
    int[] minutes = {10, 11, 13, 23, 24, 26, 29, 32, 33, 300};
    for (int one : minutes) {
      for (int other : minutes) {
        double m = (double) (one + 10 + other) / 3.0;
        double sum = (one - m) * (one - m) + (10 - m) * (10 - m) + (other - m) * (other - m);
        Check.due(one + ", 10, " + other, threeLoads(one, 10, other).spread(), Double.doubleToLongBits(sum / 3.0));
      }
    }
    Check.due("the last bit tells the order: 10, 10, 23", threeLoads(10, 10, 23).spread(), 4630482291872177265L);
    Check.due("the last bit tells the order: 23, 10, 10", threeLoads(23, 10, 10).spread(), 4630482291872177266L);
    Check.due("all 0", Check.told(ONE).spread(), 0);
    SisterCourts one = Check.told("town a;judge j a 600 civil;case c a civil 0 70;");
    Check.sit(one, 0, 0, 0);
    Check.due("one judge", one.spread(), 0);
    SisterCourts like = sixJudges(cases(70, 70, 70, 70, 70, 70));
    Check.sit(like, 0, 0, 0, 1, 1, 0, 2, 2, 0, 3, 3, 0, 4, 4, 0, 5, 5, 0);
    Check.due("like loads", like.spread(), 0);
    Check.sentence(25, "that of Double.NaN without JUDGES");
    Check.due("without anything", new SisterCourts().spread(), 0x7ff8000000000000L);
    Check.due("without judges", Check.told("town a;case c a land 0 10;").spread(), 0x7ff8000000000000L);
  }

  private static SisterCourts waiting(int... ages) {
    StringBuilder text = new StringBuilder("town a;judge j a 600 civil;");
    for (int i = 0; i < ages.length; i++) {
      text.append("case c").append((char) ('a' + i)).append(" a civil 0 10;");
    }
    SisterCourts x = Check.told(text + "case z a civil 0 10;");
    for (int i = 0; i < ages.length; i++) {
      Check.sit(x, i, 0, ages[i]);
    }
    return x;
  }

  private static void waited() {
    Check.sentence(26, "the sum as a float by how many as a float, in hundredths, cast to an int");
    Check.due("0", waiting(0).waited(), 0);
    Check.due("60", waiting(60).waited(), 6000);
    Check.due("60, 60, ..", waiting(60, 60, 60, 60, 60, 60, 60, 60, 60, 60, 60).waited(), 6000);
    Check.due("1 by 2", waiting(0, 1).waited(), 50);
    Check.due("2 by 3: no rounding up", waiting(1, 1, 0).waited(), 66);
    Check.due("1 by 11", waiting(1, 0, 0, 0, 0, 0, 0, 0, 0, 0, 0).waited(), 9);
    Check.due("7 by 5: the product is a float, too", waiting(7, 0, 0, 0, 0).waited(), 140);
    Check.due("21 by 5: as a float it is less than 420", waiting(21, 0, 0, 0, 0).waited(), 419);
    Check.due("23 by 5: as a float it is not less than 460", waiting(23, 0, 0, 0, 0).waited(), 460);
    SisterCourts filed = Check.told("town a;judge j a 600 civil;case c a civil 20 10;case d a civil 60 10;");
    Check.sit(filed, 0, 0, 23);
    Check.due("from the day filed", filed.waited(), 300);
    Check.sit(filed, 1, 0, 60);
    Check.due("3 and 0", filed.waited(), 150);
    Check.sentence(26, "NONE: none has a SITTING.");
    Check.due("none has", waiting().waited(), -1);
    filed.clear(0);
    Check.due("one has", filed.waited(), 0);
    filed.clear(1);
    Check.due("none has any more", filed.waited(), -1);
    Check.due("no cases", new SisterCourts().waited(), -1);
  }
}
