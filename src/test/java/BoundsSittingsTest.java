/**
 * Each sentence of the document that names a boundary case, with a test of its own: what is told,
 * sittings by hand and day by day (==== 2, promises 4 to 13).
 */
public final class BoundsSittingsTest {
  private static final String ONE = "town a;town b;road a b 2;judge j a 100 civil;judge k b 60 land civil;"
      + "case c a civil 5 50;case d b land 0 10;case e b civil 60 60;";
  /** In which order reasons are looked for, as the document tells them. */
  private static final int[] REASONS = {7, 3, 1, 2, 5, 6, 4};

  public static void main(String[] args) {
    travel();
    travelOthers();
    judge();
    file();
    days();
    whyOrder();
    hasASitting();
    aheadOfTheDayFiled();
    noneOfHisSorts();
    barred();
    sameDay();
    fewerApart();
    neverThere();
    someSitting();
    quarrels();
    minutesOfHis();
    whyOthers();
    set();
    clear();
    sits();
    minutes();
    openOnes();
    open();
    goneThrough();
    leastLoad();
    shortestTravel();
    theLeast();
    goFromTo();
    goOthers();
    Check.end();
  }

  // ---- what is told

  private static void travel() {
    Check.sentence(0, "the least sum of DAYS along roads");
    String towns = "town a;town b;town c;town d;town e;";
    Check.due("no road", Check.told(towns).travel(0, 4), -2);
    Check.due("one road", Check.told(towns + "road e a 9;").travel(0, 4), 9);
    Check.due("the road itself, as short", Check.told(towns + "road a b 4;road b c 5;road a c 9;").travel(0, 2), 9);
    Check.due("a way round is shorter", Check.told(towns + "road a b 4;road b c 4;road a c 9;").travel(0, 2), 8);
    SisterCourts line = Check.told(towns + "road c b 9;road e d 9;road a b 9;road d c 9;");
    Check.due("along all roads, the longest there is", line.travel(0, 4), 36);
    Check.due("the other way", line.travel(4, 0), 36);
    Check.due("a part", line.travel(3, 1), 18);
    SisterCourts naught = Check.told(towns + "road a e 0;road e c 0;road c b 0;road a b 9;");
    Check.due("roads of 0", naught.travel(0, 1), 0);
    SisterCourts round = Check.told(towns + "road a d 9;road a c 1;road c e 1;road e b 1;road b d 1;");
    Check.due("over all others, backward and forward", round.travel(0, 3), 4);
    Check.due("the other way", round.travel(3, 0), 4);
    for (int middle = 0; middle < 5; middle++) {
      StringBuilder star = new StringBuilder(towns);
      for (int town = 0; town < 5; town++) {
        if (town != middle) {
          star.append("road ").append((char) ('a' + town)).append(' ').append((char) ('a' + middle)).append(" 2;");
        }
      }
      SisterCourts x = Check.told(star.toString());
      int one = middle == 0 ? 1 : 0;
      int other = middle == 4 ? 3 : 4;
      Check.due("over " + middle, x.travel(one, other), 4);
      Check.due("over " + middle + ", the other way", x.travel(other, one), 4);
    }
    Check.sentence(0, "to itself 0;");
    for (int town = 0; town < 5; town++) {
      Check.due("travel(" + town + ", " + town + ")", round.travel(town, town), 0);
      Check.due("without a road", Check.told(towns).travel(town, town), 0);
    }
    Check.sentence(0, "none: there is no way");
    SisterCourts parted = Check.told(towns + "road a b 1;road c d 0;");
    Check.due("of two parts", parted.travel(1, 2), -2);
    Check.due("of two parts", parted.travel(3, 0), -2);
    Check.due("none at all", parted.travel(4, 0), -2);
  }

  private static void travelOthers() {
    Check.sentence(4, "TRAVEL; -2: there is no way; NONE: no such TOWNS.");
    SisterCourts x = Check.told("town a;town b;town c;road a b 9;");
    Check.due("there is a way", x.travel(0, 1), 9);
    Check.due("there is none", x.travel(0, 2), -2);
    for (int none : new int[] {-1, -2, 3, 4, 5, 6, 25, Integer.MIN_VALUE, Integer.MAX_VALUE}) {
      Check.due("travel(" + none + ", 0)", x.travel(none, 0), -1);
      Check.due("travel(0, " + none + ")", x.travel(0, none), -1);
      Check.due("travel(" + none + ", " + none + ")", x.travel(none, none), -1);
    }
    SisterCourts five = Check.told("town a;town b;town c;town d;town e;road e a 1;");
    Check.due("the last of five", five.travel(4, 0), 1);
    Check.due("the sixth of five", five.travel(5, 0), -1);
    Check.due("the sixth of five", five.travel(0, 5), -1);
  }

  private static void judge() {
    Check.sentence(5, "what 0: HOME, 1: MINUTES a DAY, 2: SORTS (bits 0 civil, 1 crime, 2 family, 3 land), "
        + "3: with whom he quarrels (bits)");
    SisterCourts x = Check.told("town a;town b;town d;town e;town f;judge p f 600 land family crime civil;"
        + "judge q a 60 civil;judge r b 61 crime;judge s d 62 family;judge t e 63 land;judge u f 64 land crime;"
        + "quarrel u p;quarrel u q;quarrel r u;quarrel u s;quarrel u t;");
    int[][] due = {{4, 600, 15, 32}, {0, 60, 1, 32}, {1, 61, 2, 32}, {2, 62, 4, 32}, {3, 63, 8, 32},
        {4, 64, 10, 31}};
    for (int judge = 0; judge < 6; judge++) {
      for (int what = 0; what < 4; what++) {
        Check.due("judge(" + judge + ", " + what + ")", x.judge(judge, what), due[judge][what]);
      }
    }
    Check.due("no quarrels", Check.told(ONE).judge(0, 3), 0);
    Check.sentence(5, "NoSuchElementException: others, none such.");
    SisterCourts y = Check.told(ONE);
    for (int what : new int[] {-1, 4, 5, Integer.MIN_VALUE, Integer.MAX_VALUE}) {
      Check.dueNoSuch("judge(0, " + what + ")", () -> y.judge(0, what));
    }
    for (int none : new int[] {-1, 2, 5, 6, Integer.MIN_VALUE, Integer.MAX_VALUE}) {
      for (int what = 0; what < 4; what++) {
        int asked = what;
        Check.dueNoSuch("judge(" + none + ", " + what + ")", () -> y.judge(none, asked));
      }
      Check.dueNoSuch("judge(" + none + ", 4)", () -> y.judge(none, 4));
    }
    Check.dueNoSuch("the seventh of six", () -> x.judge(6, 0));
  }

  private static void file() {
    Check.sentence(6, "what 0: TOWN, 1: SORT (0 to 3), 2: DAY FILED, 3: MINUTES, 4: whom it bars (bits), "
        + "5: its JUDGE (NONE), 6: the DAY of its SITTING (NONE)");
    SisterCourts x = Check.told(ONE + "case f a family 1 300 bars k bars j;case g a crime 2 11 bars k;");
    int[][] due = {{0, 0, 5, 50, 0, -1, -1}, {1, 3, 0, 10, 0, -1, -1}, {1, 0, 60, 60, 0, -1, -1},
        {0, 2, 1, 300, 3, -1, -1}, {0, 1, 2, 11, 2, -1, -1}};
    for (int file = 0; file < 5; file++) {
      for (int what = 0; what < 7; what++) {
        Check.due("file(" + file + ", " + what + ")", x.file(file, what), due[file][what]);
      }
    }
    Check.sit(x, 1, 1, 0, 2, 1, 60);
    Check.due("its judge", x.file(1, 5), 1);
    Check.due("day 0", x.file(1, 6), 0);
    Check.due("day 60", x.file(2, 6), 60);
    Check.sit(x, 0, 0, 5);
    Check.due("judge 0", x.file(0, 5), 0);
    x.clear(1);
    Check.due("cleared: no judge", x.file(1, 5), -1);
    Check.due("cleared: no day", x.file(1, 6), -1);
    Check.sentence(6, "NoSuchElementException: others, none such.");
    for (int what : new int[] {-1, 7, 8, Integer.MIN_VALUE, Integer.MAX_VALUE}) {
      Check.dueNoSuch("file(0, " + what + ")", () -> x.file(0, what));
    }
    for (int none : new int[] {-1, 5, 11, 12, Integer.MIN_VALUE, Integer.MAX_VALUE}) {
      for (int what = 0; what < 7; what++) {
        int asked = what;
        Check.dueNoSuch("file(" + none + ", " + what + ")", () -> x.file(none, asked));
      }
      Check.dueNoSuch("file(" + none + ", 7)", () -> x.file(none, 7));
    }
    SisterCourts full = Check.told("town a;" + cases(12));
    Check.due("the last of twelve", full.file(11, 3), 10);
    Check.dueNoSuch("the thirteenth of twelve", () -> full.file(12, 3));
  }

  private static String cases(int many) {
    StringBuilder text = new StringBuilder();
    for (int i = 0; i < many; i++) {
      text.append("case x").append((char) ('a' + i)).append(" a civil 0 10;");
    }
    return text.toString();
  }

  // ---- why not

  private static void days() {
    Check.sentence(0, "DAYS: 0 to 60.");
    SisterCourts x = Check.told(ONE);
    for (int day : new int[] {0, 1, 59, 60}) {
      Check.due("why on " + day, x.why(1, 1, day), 0);
      Check.due("sits on " + day, x.sits(1, day), -1);
      Check.due("minutes on " + day, x.minutes(1, day), 0);
      Check.due("open on " + day, x.open(day, -1) >= 1, true);
      Check.due("best on " + day, x.best(day, 1, 0), 1);
    }
    for (int day : new int[] {-1, -2, 61, 62, Integer.MIN_VALUE, Integer.MAX_VALUE}) {
      Check.due("why on " + day, x.why(1, 1, day), -1);
      Check.due("set on " + day, x.set(1, 1, day), false);
      Check.due("sits on " + day, x.sits(1, day), -2);
      Check.due("minutes on " + day, x.minutes(1, day), -1);
      Check.due("open on " + day, x.open(day, -1), -2);
      Check.due("go to " + day, x.go(0, day), -1);
      Check.due("go from " + day, x.go(day, 60), -1);
      Check.due("best on " + day, x.best(day, 1, 0), -1);
      Check.due("bestOf on " + day, x.bestOf(day, 1, 0), -2);
      Check.due("take on " + day, x.take(day, 1), -1);
    }
    Check.due("nothing came of it", x.count(3) + x.count(4), 0);
  }

  /** Every set of reasons at once: the first of them by the document's order is told. */
  private static void whyOrder() {
    Check.sentence(0, "WHY NOT, the first of these: 7 the CASE has a SITTING");
    for (int set = 0; set < 1 << REASONS.length; set++) {
      int due = 0;
      for (int at = REASONS.length - 1; at >= 0; at--) {
        due = (set >> at & 1) != 0 ? REASONS[at] : due;
      }
      Check.due("of the reasons " + Integer.toBinaryString(set), withReasons(set).why(0, 0, 7), due);
    }
  }

  private static SisterCourts withReasons(int set) {
    boolean sitting = (set & 1) != 0;
    boolean early = (set & 2) != 0;
    boolean sort = (set & 4) != 0;
    boolean barred = (set & 8) != 0;
    boolean elsewhere = (set & 16) != 0;
    boolean quarrel = (set & 32) != 0;
    boolean tooLong = (set & 64) != 0;
    SisterCourts x = Check.told("town a;town b;road a b 0;judge j a 110 crime" + (sort ? "" : " civil") + ";"
        + "judge k a 600 crime;judge l a 600 civil;" + (quarrel ? "quarrel k j;" : "")
        + "case p a civil " + (early ? 8 : 7) + (tooLong ? " 111" : " 100") + (barred ? " bars j" : "") + ";"
        + "case q b crime 0 10;case r a crime 0 10;");
    Check.sit(x, 1, 0, elsewhere ? 7 : 5, 2, 1, 7);
    if (sitting) {
      Check.sit(x, 0, 2, 20);
    }
    return x;
  }

  private static void hasASitting() {
    Check.sentence(0, "7 the CASE has a SITTING;");
    SisterCourts x = Check.told(ONE);
    Check.due("ahead of it", x.why(0, 0, 5), 0);
    Check.sit(x, 0, 0, 5);
    Check.due("the same", x.why(0, 0, 5), 7);
    Check.due("another day", x.why(0, 0, 9), 7);
    Check.due("another judge", x.why(0, 1, 5), 7);
    Check.due("too early as well", x.why(0, 0, 0), 7);
    x.clear(0);
    Check.due("cleared", x.why(0, 0, 5), 0);
    Check.sit(x, 1, 1, 0);
    Check.due("by judge 1 on day 0", x.why(1, 1, 0), 7);
  }

  private static void aheadOfTheDayFiled() {
    Check.sentence(0, "3 the DAY is ahead of that on which it was FILED");
    SisterCourts x = Check.told(ONE);
    Check.due("one ahead", x.why(0, 0, 4), 3);
    Check.due("that day", x.why(0, 0, 5), 0);
    Check.due("one behind", x.why(0, 0, 6), 0);
    Check.due("filed on 0", x.why(1, 1, 0), 0);
    Check.due("filed on 60, on 59", x.why(2, 1, 59), 3);
    Check.due("filed on 60, on 60", x.why(2, 1, 60), 0);
  }

  private static void noneOfHisSorts() {
    Check.sentence(0, "1 its SORT is none of his");
    String[] sorts = {"civil", "crime", "family", "land"};
    for (int his = 0; his < 4; his++) {
      for (int its = 0; its < 4; its++) {
        SisterCourts x = Check.told("town a;judge j a 60 " + sorts[his] + ";case c a " + sorts[its] + " 0 10;");
        Check.due(sorts[its] + " by one of " + sorts[his], x.why(0, 0, 0), his == its ? 0 : 1);
      }
    }
    SisterCourts all = Check.told("town a;judge j a 60 land civil family crime;case c a crime 0 10;");
    Check.due("one of all", all.why(0, 0, 0), 0);
  }

  private static void barred() {
    Check.sentence(0, "2 it bars him");
    SisterCourts x = Check.told("town a;judge j a 60 land;judge k a 60 land;judge l a 60 land;"
        + "case c a land 0 10 bars k;case d a land 0 10 bars l bars j;case e a land 0 10;");
    int[][] due = {{0, 2, 0}, {2, 0, 2}, {0, 0, 0}};
    for (int file = 0; file < 3; file++) {
      for (int judge = 0; judge < 3; judge++) {
        Check.due("why(" + file + ", " + judge + ", 0)", x.why(file, judge, 0), due[file][judge]);
      }
    }
  }

  private static void sameDay() {
    Check.sentence(0, "on the same DAY in another one");
    SisterCourts x = Check.told("town a;town b;road a b 0;judge j a 600 land;case c a land 0 10;"
        + "case d b land 0 10;case e a land 0 10;");
    Check.sit(x, 0, 0, 7);
    Check.due("another town, though 0 days off", x.why(1, 0, 7), 5);
    Check.due("the same town", x.why(2, 0, 7), 0);
    Check.due("another town, the day ahead", x.why(1, 0, 6), 0);
    Check.due("another town, the day behind", x.why(1, 0, 8), 0);
    Check.sit(x, 1, 0, 8);
    Check.due("the same town, the day ahead of another one's", x.why(2, 0, 7), 0);
    Check.due("the day of another one", x.why(2, 0, 8), 5);
  }

  private static void fewerApart() {
    Check.sentence(0, "or on DAYS that are fewer apart than 1 and the TRAVEL between them");
    for (int travel = 0; travel <= 9; travel++) {
      SisterCourts x = Check.told("town a;town b;road a b " + travel + ";judge j a 600 land;"
          + "case c a land 0 10;case d b land 0 10;");
      Check.sit(x, 0, 0, 30);
      Check.due("later, too few", x.why(1, 0, 30 + travel), 5);
      Check.due("later, just enough", x.why(1, 0, 31 + travel), 0);
      Check.due("ahead, too few", x.why(1, 0, 30 - travel), 5);
      Check.due("ahead, just enough", x.why(1, 0, 29 - travel), 0);
    }
    SisterCourts far = Check.told("town a;town b;town c;town d;town e;road a b 9;road b c 9;road c d 9;"
        + "road d e 9;judge j a 600 land;case p a land 0 10;case q e land 0 10;");
    Check.sit(far, 0, 0, 0);
    Check.due("along all roads, too few", far.why(1, 0, 36), 5);
    Check.due("along all roads, just enough", far.why(1, 0, 37), 0);
    SisterCourts home = Check.told("town a;town b;town c;road a b 9;road b c 1;road a c 9;judge j a 600 land;"
        + "case p b land 0 10;case q c land 0 10;");
    Check.sit(home, 0, 0, 10);
    Check.due("between the two, not from his home", home.why(1, 0, 12), 0);
    Check.due("between the two, too few", home.why(1, 0, 11), 5);
  }

  private static void neverThere() {
    Check.sentence(0, "(none: never)");
    SisterCourts x = Check.told("town a;town b;judge j a 600 land;case c a land 0 10;case d b land 0 10;");
    Check.due("he may begin without a way from his home", x.why(1, 0, 0), 0);
    Check.sit(x, 0, 0, 0);
    Check.due("the same day", x.why(1, 0, 0), 5);
    Check.due("the last day", x.why(1, 0, 60), 5);
    x.clear(0);
    Check.sit(x, 1, 0, 60);
    Check.due("the other way, the first day", x.why(0, 0, 0), 5);
    Check.due("the other way, the same day", x.why(0, 0, 60), 5);
  }

  private static void someSitting() {
    Check.sentence(0, "5 he SITS on some DAY in a TOWN such that he can't be in both");
    SisterCourts x = Check.told("town a;town b;town c;road a b 1;road b c 4;judge j a 600 land;judge k a 600 land;"
        + "case p c land 0 10;case q a land 0 10;case r b land 0 10;case s b land 0 10;");
    Check.sit(x, 0, 0, 10, 1, 0, 20);
    Check.due("too near to the first", x.why(2, 0, 14), 5);
    Check.due("between both", x.why(2, 0, 15), 0);
    Check.due("between both", x.why(2, 0, 18), 0);
    Check.due("too near to the second", x.why(2, 0, 19), 5);
    Check.due("ahead of both, too near", x.why(2, 0, 6), 5);
    Check.due("ahead of both", x.why(2, 0, 5), 0);
    Check.due("another judge's sittings are not in his way", x.why(2, 1, 14), 0);
    x.clear(0);
    Check.due("a cleared one is not in the way", x.why(2, 0, 14), 0);
    Check.sit(x, 2, 0, 30);
    Check.due("more in the same town, the same day", x.why(3, 0, 30), 0);
    Check.due("more in the same town, the next day", x.why(3, 0, 31), 0);
  }

  private static void quarrels() {
    Check.sentence(0, "6 a JUDGE with whom he quarrels SITS in that TOWN on that DAY");
    for (String quarrel : new String[] {"quarrel j k;", "quarrel k j;"}) {
      SisterCourts x = Check.told("town a;town b;road a b 0;judge j a 600 land;judge k b 600 land;"
          + "judge l a 600 land;" + quarrel + "case p a land 0 10;case q a land 0 10;case r b land 0 10;");
      Check.due("he doesn't sit yet", x.why(1, 0, 7), 0);
      Check.sit(x, 0, 1, 7);
      Check.due("in that town on that day", x.why(1, 0, 7), 6);
      Check.due("the day ahead", x.why(1, 0, 6), 0);
      Check.due("the day behind", x.why(1, 0, 8), 0);
      Check.due("another town", x.why(2, 0, 7), 0);
      Check.due("he himself", x.why(1, 1, 7), 0);
      Check.due("one without quarrels", x.why(1, 2, 7), 0);
      x.clear(0);
      Check.due("he sits there no more", x.why(1, 0, 7), 0);
      Check.sit(x, 0, 0, 0);
      Check.due("the other one, on day 0", x.why(1, 1, 0), 6);
    }
    SisterCourts six = Check.told("town a;judge p a 60 land;judge q a 60 land;judge r a 60 land;judge s a 60 land;"
        + "judge t a 60 land;judge u a 60 land;quarrel p u;case c a land 0 10;case d a land 0 10;");
    Check.sit(six, 0, 5, 3);
    for (int judge = 0; judge < 6; judge++) {
      Check.due("the first and the last quarrel: " + judge, six.why(1, judge, 3), judge == 0 ? 6 : 0);
    }
  }

  private static void minutesOfHis() {
    Check.sentence(0, "4 his MINUTES on that DAY would be more than he has");
    SisterCourts x = Check.told("town a;town b;road a b 0;judge j a 100 land;case c b land 0 50;case d b land 0 50;"
        + "case e b land 0 51;case f b land 0 100;case g b land 0 101;case h b land 0 10;");
    Check.due("alone, just what he has", x.why(3, 0, 3), 0);
    Check.due("alone, one more", x.why(4, 0, 3), 4);
    Check.sit(x, 0, 0, 3);
    Check.due("together just what he has; the day away takes none of it", x.why(1, 0, 3), 0);
    Check.due("together one more", x.why(2, 0, 3), 4);
    Check.due("another day", x.why(2, 0, 4), 0);
    Check.sit(x, 1, 0, 3);
    Check.due("none left", x.why(5, 0, 3), 4);
    x.clear(0);
    Check.due("some left again", x.why(5, 0, 3), 0);
    SisterCourts least = Check.told("town a;judge j a 60 land;judge k a 600 land;case c a land 0 60;"
        + "case d a land 0 61;case e a land 0 300;case f a land 0 300;case g a land 0 10;");
    Check.due("60 of 60", least.why(0, 0, 0), 0);
    Check.due("61 of 60", least.why(1, 0, 0), 4);
    Check.sit(least, 2, 1, 0);
    Check.due("600 of 600", least.why(3, 1, 0), 0);
    Check.sit(least, 3, 1, 0);
    Check.due("610 of 600", least.why(4, 1, 0), 4);
  }

  private static void whyOthers() {
    Check.sentence(0, "0: it MAY be set.");
    SisterCourts free = Check.told(ONE);
    Check.due("on the first day it may", free.why(0, 0, 5), 0);
    Check.due("so it is set", free.set(0, 0, 5), true);
    Check.sentence(7, "WHY NOT (0 to 7); NONE: none such, no DAY.");
    SisterCourts x = Check.told(ONE);
    Check.due("it may be", x.why(0, 0, 5), 0);
    for (int none : new int[] {-1, -2, 3, 11, 12, 13, Integer.MIN_VALUE, Integer.MAX_VALUE}) {
      Check.due("why(" + none + ", 0, 5)", x.why(none, 0, 5), -1);
    }
    for (int none : new int[] {-1, -2, 2, 5, 6, 7, 31, 32, 33, Integer.MIN_VALUE, Integer.MAX_VALUE}) {
      Check.due("why(0, " + none + ", 5)", x.why(0, none, 5), -1);
    }
    for (int none : new int[] {-1, -2, 61, 62, Integer.MIN_VALUE, Integer.MAX_VALUE}) {
      Check.due("why(0, 0, " + none + ")", x.why(0, 0, none), -1);
    }
    Check.sit(x, 0, 0, 5);
    Check.due("7 is not ahead of no such judge", x.why(0, 2, 5), -1);
    Check.due("7 is not ahead of no day", x.why(0, 0, 61), -1);
    Check.due("3 is not ahead of no day", x.why(2, 0, -1), -1);
  }

  // ---- sittings by hand

  private static void set() {
    Check.sentence(8, "The SITTING is set: true;");
    SisterCourts x = Check.told(ONE);
    Check.due("set(1, 1, 0)", x.set(1, 1, 0), true);
    Check.due("set(2, 1, 60)", x.set(2, 1, 60), true);
    Check.due("set(0, 0, 5)", x.set(0, 0, 5), true);
    Check.due("judges", Check.judges(x), "0 1 1");
    Check.due("days", Check.days(x), "5 0 60");
    Check.due("three acts", x.count(4), 3);
    Check.sentence(8, "false: it MAY not be, others.");
    for (int set = 1; set < 1 << REASONS.length; set++) {
      SisterCourts y = withReasons(set);
      String ahead = Check.judges(y) + Check.days(y) + y.count(4);
      Check.due("set for the reasons " + Integer.toBinaryString(set), y.set(0, 0, 7), false);
      Check.due("nothing came of it", Check.judges(y) + Check.days(y) + y.count(4), ahead);
    }
    Check.due("without a reason", withReasons(0).set(0, 0, 7), true);
    SisterCourts z = Check.told(ONE);
    for (int none : new int[] {-1, 3, 12, Integer.MIN_VALUE, Integer.MAX_VALUE}) {
      Check.due("set(" + none + ", 0, 5)", z.set(none, 0, 5), false);
      Check.due("set(0, " + none + ", 5)", z.set(0, none, 5), false);
    }
    Check.due("set(0, 0, -1)", z.set(0, 0, -1), false);
    Check.due("set(0, 0, 61)", z.set(0, 0, 61), false);
    Check.due("nothing came of it", Check.whole(z), Check.whole(Check.told(ONE)));
  }

  private static void clear() {
    Check.sentence(9, "The SITTING of a CASE is cleared: its DAY;");
    SisterCourts x = Check.told(ONE);
    Check.sit(x, 1, 1, 0, 2, 1, 60, 0, 0, 5);
    Check.due("day 0", x.clear(1), 0);
    Check.due("the others stay", Check.days(x), "5 -1 60");
    Check.due("day 60", x.clear(2), 60);
    Check.due("the other stays", Check.judges(x), "0 -1 -1");
    Check.due("an act each", x.count(4), 5);
    Check.sentence(9, "NONE: it has none, none such.");
    Check.due("it was cleared", x.clear(1), -1);
    for (int none : new int[] {-1, -2, 3, 11, 12, 13, Integer.MIN_VALUE, Integer.MAX_VALUE}) {
      Check.due("clear(" + none + ")", x.clear(none), -1);
    }
    Check.due("no acts", x.count(4), 5);
    Check.due("the other stays", Check.judges(x), "0 -1 -1");
    Check.due("it never had one", Check.told(ONE).clear(0), -1);
    Check.due("no cases", new SisterCourts().clear(0), -1);
  }

  private static void sits() {
    Check.sentence(10, "The TOWN in which a JUDGE SITS on a DAY; NONE: none; -2: others.");
    SisterCourts x = Check.told(ONE);
    Check.sit(x, 1, 1, 0, 2, 1, 60, 0, 0, 5);
    Check.due("town 1 on day 0", x.sits(1, 0), 1);
    Check.due("town 1 on day 60", x.sits(1, 60), 1);
    Check.due("town 0", x.sits(0, 5), 0);
    Check.due("the day ahead", x.sits(0, 4), -1);
    Check.due("the day behind", x.sits(0, 6), -1);
    Check.due("another judge's day", x.sits(1, 5), -1);
    for (int none : new int[] {-1, -2, 2, 5, 6, Integer.MIN_VALUE, Integer.MAX_VALUE}) {
      Check.due("sits(" + none + ", 5)", x.sits(none, 5), -2);
      Check.due("sits(" + none + ", -1)", x.sits(none, -1), -2);
    }
    for (int none : new int[] {-1, -2, 61, Integer.MIN_VALUE, Integer.MAX_VALUE}) {
      Check.due("sits(0, " + none + ")", x.sits(0, none), -2);
    }
    x.clear(0);
    Check.due("cleared", x.sits(0, 5), -1);
    SisterCourts full = Check.told("town b;town a;judge j a 600 civil;judge k a 600 civil;" + cases(12));
    Check.sit(full, 11, 1, 60);
    Check.due("by the last of twelve", full.sits(1, 60), 1);
    Check.due("by none of twelve", full.sits(0, 60), -1);
    Check.due("by none of twelve", full.sits(1, 59), -1);
  }

  private static void minutes() {
    Check.sentence(11, "MINUTES of a JUDGE's SITTINGS on a DAY; NONE: others.");
    SisterCourts x = Check.told("town a;town b;road a b 0;judge j a 600 land;judge k a 60 land;case c b land 0 300;"
        + "case d b land 0 290;case e b land 0 10;case f b land 0 20;");
    Check.due("none", x.minutes(0, 3), 0);
    Check.sit(x, 0, 0, 3);
    Check.due("one, without what a day away adds to a load", x.minutes(0, 3), 300);
    Check.sit(x, 1, 0, 3, 2, 0, 3, 3, 1, 3);
    Check.due("as many as he has", x.minutes(0, 3), 600);
    Check.due("the other judge", x.minutes(1, 3), 20);
    Check.due("the day ahead", x.minutes(0, 2), 0);
    Check.due("the day behind", x.minutes(0, 4), 0);
    Check.due("day 0", x.minutes(0, 0), 0);
    Check.due("day 60", x.minutes(0, 60), 0);
    x.clear(1);
    Check.due("cleared", x.minutes(0, 3), 310);
    for (int none : new int[] {-1, 2, 5, 6, Integer.MIN_VALUE, Integer.MAX_VALUE}) {
      Check.due("minutes(" + none + ", 3)", x.minutes(none, 3), -1);
      Check.due("minutes(" + none + ", 61)", x.minutes(none, 61), -1);
    }
    for (int none : new int[] {-1, 61, Integer.MIN_VALUE, Integer.MAX_VALUE}) {
      Check.due("minutes(0, " + none + ")", x.minutes(0, none), -1);
    }
  }

  // ---- open ones

  private static void openOnes() {
    Check.sentence(0, "OPEN on a DAY: CASES without a SITTING that were FILED by then");
    SisterCourts x = Check.told("town a;judge j a 600 civil;case c a civil 5 10;case d a civil 0 10;"
        + "case e a civil 60 10;case f a land 5 10 bars j;");
    int[][] due = {{0, 1}, {4, 1}, {5, 3}, {6, 3}, {59, 3}, {60, 4}};
    for (int[] pair : due) {
      Check.due("open on " + pair[0], x.open(pair[0], -1), pair[1]);
    }
    Check.sit(x, 0, 0, 50);
    Check.due("one with a sitting to come", x.open(5, -1), 2);
    Check.due("one with a sitting by then", x.open(59, -1), 2);
    x.clear(0);
    Check.due("cleared", x.open(5, -1), 3);
    Check.sentence(0, "the OLDEST first, of like ones by numbers");
    SisterCourts y = Check.told("town a;case p a civil 9 10;case q a civil 3 300;case r a civil 9 10;"
        + "case s a civil 0 10;case t a civil 3 10;case u a civil 60 10;case v a civil 3 10;");
    int[] order = {3, 1, 4, 6, 0, 2, 5};
    for (int k = 0; k < 7; k++) {
      Check.due("open(60, " + k + ")", y.open(60, k), order[k]);
    }
    SisterCourts like = Check.told("town a;" + cases(12));
    SisterCourts turned = Check.told("town a;case xa a land 11 10;case xb a land 10 10;case xc a land 9 10;"
        + "case xd a land 8 10;case xe a land 7 10;case xf a land 6 10;case xg a land 5 10;case xh a land 4 10;"
        + "case xi a land 3 10;case xj a land 2 10;case xk a land 1 10;case xl a land 0 10;");
    for (int k = 0; k < 12; k++) {
      Check.due("like ones: open(0, " + k + ")", like.open(0, k), k);
      Check.due("the last is the oldest: open(60, " + k + ")", turned.open(60, k), 11 - k);
    }
  }

  private static void open() {
    Check.sentence(12, "The k-th CASE (from 0) OPEN on a DAY, the OLDEST first; how many (k NONE);");
    SisterCourts x = Check.told(ONE);
    Check.due("the first", x.open(5, 0), 1);
    Check.due("the second", x.open(5, 1), 0);
    Check.due("how many", x.open(5, -1), 2);
    Check.due("how many by the last day", x.open(60, -1), 3);
    Check.due("the last", x.open(60, 2), 2);
    Check.due("how many of none", Check.told("town a;case c a land 1 10;").open(0, -1), 0);
    Check.due("how many without cases", Check.told("town a;").open(0, -1), 0);
    Check.due("how many of twelve", Check.told("town a;" + cases(12)).open(0, -1), 12);
    Check.sentence(12, "-2: none such, others.");
    for (int k : new int[] {2, 3, 12, -2, -3, Integer.MIN_VALUE, Integer.MAX_VALUE}) {
      Check.due("open(5, " + k + ")", x.open(5, k), -2);
    }
    for (int day : new int[] {-1, 61, Integer.MIN_VALUE, Integer.MAX_VALUE}) {
      for (int k = -2; k <= 1; k++) {
        Check.due("open(" + day + ", " + k + ")", x.open(day, k), -2);
      }
    }
    Check.due("none is open", Check.told("town a;case c a land 1 10;").open(0, 0), -2);
    Check.due("the thirteenth of twelve", Check.told("town a;" + cases(12)).open(0, 12), -2);
  }

  // ---- days gone through

  private static void goneThrough() {
    Check.sentence(0, "A DAY is GONE THROUGH: each CASE OPEN on it, the OLDEST first");
    SisterCourts x = Check.told("town a;judge j a 60 civil;case c a civil 3 60;case d a civil 2 60;"
        + "case e a civil 2 60;case f a civil 4 60;");
    Check.due("one has room", x.go(3, 3), 1);
    Check.due("the oldest, of like ones the first", Check.judges(x), "-1 0 -1 -1");
    SisterCourts y = Check.told("town a;judge j a 100 civil;case c a civil 0 60;case d a civil 1 50;"
        + "case e a civil 2 40;case f a land 0 10;case g a civil 3 10;");
    Check.due("one that does not fit is passed by", y.go(2, 2), 2);
    Check.due("the next that fits has it", Check.judges(y), "0 -1 0 -1 -1");
  }

  private static void leastLoad() {
    Check.sentence(0, "of the JUDGES by whom it MAY be heard then that with the least LOAD (as it is then)");
    SisterCourts x = Check.told("town a;judge i a 600 land;judge j a 600 civil;judge k a 600 civil;"
        + "case c a civil 0 50;case d a civil 0 49;case e a civil 0 10;case f a civil 0 10;case g a civil 0 10;");
    Check.due("go", x.go(0, 0), 5);
    // 50, 0; 50, 49; then 59 by k, 60 by j, 69 by k.
    Check.due("judges", Check.judges(x), "1 2 2 1 2");
    SisterCourts away = Check.told("town a;town b;road a b 0;judge j b 600 civil;judge k a 600 civil;"
        + "case c b civil 0 60;case d b civil 0 10;case e b civil 0 10;case f b civil 0 10;");
    Check.due("go", away.go(0, 0), 4);
    // j has 60, k 10 and 60 for the day away, so j the third: 70; then they are alike, j is the least.
    Check.due("a day away is load, too", Check.judges(away), "0 1 0 0");
    SisterCourts others = Check.told("town a;judge j a 600 civil;judge k a 600 civil;case c a civil 0 50;"
        + "case d a civil 0 10;");
    Check.sit(others, 0, 0, 60);
    others.go(0, 0);
    Check.due("sittings on later days are load, too", others.file(1, 5), 1);
  }

  private static void shortestTravel() {
    Check.sentence(0, "of like ones with the shortest TRAVEL from his HOME to its TOWN (none is longest)");
    String towns = "town a;town b;town c;town d;road a d 9;road b d 8;";
    SisterCourts x = Check.told(towns + "judge i c 600 civil;judge j a 600 civil;judge k b 600 civil;"
        + "case p d civil 0 10;case q d civil 0 10;case r d civil 0 10;");
    Check.due("go", x.go(0, 0), 3);
    Check.due("the shortest, the longer, none", Check.judges(x), "2 1 0");
    SisterCourts along = Check.told("town a;town b;town c;road a c 9;road a b 1;road b c 2;judge i a 600 civil;"
        + "judge j b 600 civil;judge k a 600 civil;case p c civil 0 10;case q c civil 0 10;case r c civil 0 10;");
    along.go(0, 0);
    Check.due("travel is the least sum", Check.judges(along), "1 0 2");
    SisterCourts load = Check.told("town a;town b;road a b 9;judge j b 600 civil;judge k a 600 civil;"
        + "case p b civil 0 10;case q b civil 0 10;");
    Check.sit(load, 0, 0, 0);
    load.go(0, 0);
    Check.due("load is ahead of travel", load.file(1, 5), 1);
  }

  private static void theLeast() {
    Check.sentence(0, "of like ones the least, has it");
    SisterCourts x = Check.told("town a;town b;town c;judge j b 600 civil;judge k c 600 civil;judge l b 600 civil;"
        + "case p a civil 0 10;case q a civil 0 10;case r a civil 0 10;");
    x.go(0, 0);
    Check.due("none has a way: by numbers", Check.judges(x), "0 1 2");
    SisterCourts y = Check.told("town a;town b;road a b 1;judge j b 600 land;judge k b 600 civil;judge l b 600 civil;"
        + "case p a civil 0 10;case q a civil 0 10;");
    y.go(0, 0);
    Check.due("the same way: by numbers", Check.judges(y), "1 2");
  }

  private static void goFromTo() {
    Check.sentence(13, "DAYS from one to another one (both, no less) are GONE THROUGH one by one");
    String text = "town a;judge j a 60 civil;case c a civil 0 60;case d a civil 0 60;case e a civil 0 60;"
        + "case f a civil 0 60;case g a civil 60 60;";
    SisterCourts x = Check.told(text);
    Check.due("go(10, 12)", x.go(10, 12), 3);
    Check.due("the first and the last, too", Check.days(x), "10 11 12 -1 -1");
    Check.due("one act", x.count(4), 1);
    SisterCourts one = Check.told(text);
    Check.due("one day", one.go(7, 7), 1);
    Check.due("that day", Check.days(one), "7 -1 -1 -1 -1");
    SisterCourts all = Check.told(text);
    Check.due("all days", all.go(0, 60), 5);
    Check.due("from 0 to 60", Check.days(all), "0 1 2 3 60");
    SisterCourts last = Check.told(text);
    Check.due("the last day", last.go(60, 60), 1);
    Check.due("that day", Check.days(last), "60 -1 -1 -1 -1");
    Check.due("the first day", last.go(0, 0), 1);
    SisterCourts apart = Check.told("town a;town b;road a b 2;judge j a 600 civil;case c a civil 0 10;"
        + "case d b civil 0 10;case e a civil 1 10;");
    Check.due("day by day", apart.go(0, 9), 3);
    Check.due("what is set on one is there on the next", Check.days(apart), "0 4 1");
    Check.sentence(13, "how many SITTINGS were set");
    SisterCourts y = Check.told(text);
    Check.sit(y, 0, 0, 10);
    Check.due("not those that were there", y.go(9, 11), 2);
    Check.due("none", y.go(9, 11), 0);
    Check.due("without cases", Check.told("town a;judge j a 60 civil;").go(0, 60), 0);
    Check.due("without judges", Check.told("town a;case c a civil 0 10;").go(0, 60), 0);
    Check.due("all twelve", Check.told("town a;judge j a 600 civil;" + cases(12)).go(0, 0), 12);
  }

  private static void goOthers() {
    Check.sentence(13, "NONE: others.");
    SisterCourts x = Check.told(ONE);
    int[][] others = {{1, 0}, {60, 59}, {60, 0}, {-1, 0}, {-1, -1}, {0, -1}, {0, 61}, {60, 61}, {61, 61},
        {61, 60}, {Integer.MIN_VALUE, Integer.MAX_VALUE}, {0, Integer.MAX_VALUE}, {Integer.MIN_VALUE, 60}};
    for (int[] pair : others) {
      Check.due("go(" + pair[0] + ", " + pair[1] + ")", x.go(pair[0], pair[1]), -1);
    }
    Check.due("nothing came of it", Check.whole(x), Check.whole(Check.told(ONE)));
  }
}
