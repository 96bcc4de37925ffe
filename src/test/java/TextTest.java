/** Promises 1 to 6, 29: a new object, the tape, the text and its faults, what it told. */
public final class TextTest {
  public static void main(String[] args) {
    newObject();
    tape();
    courtsAndTape();
    lines();
    tokens();
    unfitTokens();
    twice();
    notTold();
    numbers();
    tooMany();
    faultLeavesAllElse();
    goodTextBeginsAnew();
    travel();
    judge();
    file();
    Check.end();
  }

  private static void newObject() {
    SisterCourts x = new SisterCourts();
    for (int what = 0; what <= 5; what++) {
      Check.due("new: count(" + what + ")", x.count(what), 0);
    }
    Check.due("count(6)", x.count(6), -1);
    Check.due("count(-1)", x.count(-1), -1);
    Check.due("travel(0, 0)", x.travel(0, 0), -1);
    Check.due("why(0, 0, 0)", x.why(0, 0, 0), -1);
    Check.due("set(0, 0, 0)", x.set(0, 0, 0), false);
    Check.due("clear(0)", x.clear(0), -1);
    Check.due("sits(0, 0)", x.sits(0, 0), -2);
    Check.due("minutes(0, 0)", x.minutes(0, 0), -1);
    Check.due("open(0, 0)", x.open(0, 0), -2);
    Check.due("best(0, 5, 0)", x.best(0, 5, 0), 0);
    Check.due("best(0, 5, 1)", x.best(0, 5, 1), 0);
    Check.due("best(0, 5, 2)", x.best(0, 5, 2), 0);
    Check.due("bestOf(0, 5, 0)", x.bestOf(0, 5, 0), -2);
    Check.due("load(0)", x.load(0), -1);
    Check.due("fairer(0)", x.fairer(0), -1);
    Check.due("lent(0, 1)", x.lent(0, 1), -1);
    Check.due("keep(0, true)", x.keep(0, true), false);
    Check.dueNoSuch("judge(0, 0)", () -> x.judge(0, 0));
    Check.dueNoSuch("file(0, 0)", () -> x.file(0, 0));
    Check.dueNoSuch("owed(0)", () -> x.owed(0));
    Check.due("go(0, 60)", x.go(0, 60), 0);
    Check.due("take(0, 5)", x.take(0, 5), 0);
    Check.due("even(1)", x.even(1), 0);
    Check.due("count(4): three acts of which nothing came", x.count(4), 3);
    Check.due("courts(0)", x.courts(0), 0);
    Check.due("count(4) after courts", x.count(4), 0);
  }

  private static void tape() {
    SisterCourts x = new SisterCourts();
    for (int many = 20; many <= 800; many += 20) {
      Check.due("feed", x.feed(0, 0, 0, 0, 0), many);
    }
    Check.due("feed beyond 800", x.feed(1, 2, 3, 4, 5), -1);
    Check.due("count(5)", x.count(5), 800);
    Check.due("courts(801)", x.courts(801), -1);
    Check.due("courts(-1)", x.courts(-1), -1);
    Check.due("the tape stays", x.count(5), 800);
    Check.due("courts(0)", x.courts(0), 0);
    Check.due("the tape is empty", x.count(5), 0);
    Check.due("courts(1)", x.courts(1), -1);
    StringBuilder text = new StringBuilder();
    for (int i = 0; i < 793; i++) {
      text.append(i % 2 == 0 ? ' ' : '\n');
    }
    Check.due("a text of 800 bytes", Check.tell(x, text + "town a;"), 1);
    Check.due("blanks alone", Check.tell(x, text.toString()), 0);
  }

  private static void courtsAndTape() {
    SisterCourts x = new SisterCourts();
    int n = Check.put(x, "town a;town b;town c;");
    Check.due("a part of the tape", x.courts(14), 2);
    Check.due("the rest is gone, too", x.count(5), 0);
    n = Check.put(x, "town a;town b;to");
    Check.due("the end cuts a word", x.courts(n), fault(14, 1));
    Check.due("count(0)", x.count(0), 2);
    Check.put(x, "town abcdefgh");
    Check.due("the end cuts a long word short: the line has no end", x.courts(12), fault(12, 1));
    Check.due("bytes of -1", x.feed(-1, -1, -1, -1, -1), 20);
    Check.due("no token", x.courts(20), fault(0, 1));
  }

  private static void lines() {
    says("", 0);
    says("town a;", 1);
    says("town a;town b;road a b 0;road b a 9;road a b 5;", 5);
    says("town a;judge j a 60 civil;judge k a 600 land family crime civil;quarrel j k;quarrel k j;"
        + "case c a civil 0 10;case d a land 60 300 bars k bars j;", 7);
    says("\n town\n\na ; ", 1);
    says("town a;judge j a060civil;case c a crime7 10bars j;", 3);
    says("town towns;town roa;town civi;town z;", 4);
    says("town a;judge b a 060 civil;case c a land 007 010;", 3);
    says("town abcdefg;", 1);
  }

  private static void tokens() {
    faulty("town abcdefgh;", 5, 1);
    faulty("abcdefgh", 0, 1);
    faulty("town a;town b;road a b 0001;", 23, 1);
    faulty("town A;", 5, 1);
    faulty("town\ta;", 4, 1);
    faulty("town\ra;", 4, 1);
    faulty("town a\0;", 6, 1);
    faulty("town " + (char) 200 + ";", 5, 1);
    faulty("town a`;", 6, 1);
    faulty("town a{;", 6, 1);
    faulty("town a;judge j a 60/", 19, 1);
    faulty("town a;judge j a 60:", 19, 1);
    faulty("town a;\0", 7, 1);
    faulty("town a_b;", 6, 1);
  }

  private static void unfitTokens() {
    faulty(";", 0, 1);
    faulty("5", 0, 1);
    faulty("bars", 0, 1);
    faulty("civil", 0, 1);
    faulty("tow a;", 0, 1);
    faulty("town", 4, 1);
    faulty("town \n ", 7, 1);
    faulty("town ;", 5, 1);
    faulty("town 5;", 5, 1);
    faulty("town a", 6, 1);
    faulty("town a b;", 7, 1);
    faulty("town a;;", 7, 1);
    faulty("town a1;", 6, 1);
    for (String word : new String[] {"town", "road", "judge", "quarrel", "case", "bars", "civil",
        "crime", "family", "land"}) {
      faulty("town " + word + ";", 5, 1);
      faulty("town a;road " + word, 12, 1);
    }
    String a = "town a;town b;judge j a 60 civil;judge k a 60 civil;";
    int n = a.length();
    faulty(a + "road a;", n + 6, 1);
    faulty(a + "road a b;", n + 8, 1);
    faulty(a + "road a b c;", n + 9, 1);
    faulty(a + "road a b 1", n + 10, 1);
    faulty(a + "road a b 1 2;", n + 11, 1);
    faulty(a + "judge ;", n + 6, 1);
    faulty(a + "judge l;", n + 7, 1);
    faulty(a + "judge l a;", n + 9, 1);
    faulty(a + "judge l a civil;", n + 10, 1);
    faulty(a + "judge l a 60;", n + 12, 1);
    faulty(a + "judge l a 60 a;", n + 13, 1);
    faulty(a + "judge l a 60 civil 5;", n + 19, 1);
    faulty(a + "judge l a 60 civil a;", n + 19, 1);
    faulty(a + "judge l a 60 civil bars", n + 19, 1);
    faulty(a + "judge l a 60 civil", n + 18, 1);
    faulty(a + "quarrel j;", n + 9, 1);
    faulty(a + "quarrel j k j;", n + 12, 1);
    faulty(a + "quarrel 1 k;", n + 8, 1);
    faulty(a + "case c a 5;", n + 9, 1);
    faulty(a + "case c a a 5;", n + 9, 1);
    faulty(a + "case c a town e;", n + 9, 1);
    faulty(a + "case c town e;", n + 7, 1);
    faulty(a + "case c a land town e;", n + 14, 1);
    faulty(a + "case c a land 5 town e;", n + 16, 1);
    faulty(a + "case c a land 5 10 town e;", n + 19, 1);
    faulty(a + "judge l a 60 town e;", n + 13, 1);
    faulty(a + "judge l a 60 civil town e;", n + 19, 1);
    faulty(a + "case c a land;", n + 13, 1);
    faulty(a + "case c a land 1;", n + 15, 1);
    faulty(a + "case c a land 1 10 j;", n + 19, 1);
    faulty(a + "case c a land 1 10 bars;", n + 23, 1);
    faulty(a + "case c a land 1 10 bars j k;", n + 26, 1);
    faulty(a + "case c a land 1 10 bars bars j;", n + 24, 1);
    faulty(a + "case c a land 1 10 land;", n + 19, 1);
  }

  private static void twice() {
    String a = "town a;town b;judge j a 60 civil;judge k a 60 civil;case c a land 1 10;";
    int n = a.length();
    for (String name : new String[] {"a", "b", "j", "k", "c"}) {
      faulty(a + "town " + name + ";", n + 5, 2);
      faulty(a + "judge " + name + " zzz 0", n + 6, 2);
      faulty(a + "case " + name + " a land 1 10;", n + 5, 2);
    }
    faulty(a + "road b b 1;", n + 7, 2);
    faulty(a + "quarrel k k;", n + 10, 2);
    faulty(a + "judge l a 60 land civil land;", n + 24, 2);
    faulty(a + "judge l a 60 land civil family crime crime;", n + 37, 2);
    faulty(a + "case d a land 1 10 bars j bars k bars j;", n + 38, 2);
  }

  private static void notTold() {
    String a = "town a;town b;judge j a 60 civil;judge k a 60 civil;case c a land 1 10;";
    int n = a.length();
    for (String name : new String[] {"j", "c", "z"}) {
      faulty(a + "road " + name + " " + name + " 1;", n + 5, 3);
      faulty(a + "road a " + name + " 1;", n + 7, 3);
      faulty(a + "judge l " + name + " 1;", n + 8, 3);
      faulty(a + "case d " + name + " 1;", n + 7, 3);
    }
    for (String name : new String[] {"a", "c", "z"}) {
      faulty(a + "quarrel " + name + " j;", n + 8, 3);
      faulty(a + "quarrel j " + name + ";", n + 10, 3);
      faulty(a + "case d a land 1 10 bars " + name, n + 24, 3);
    }
    faulty(a + "judge l l 60 civil;", n + 8, 3);
    faulty(a + "case d d land 1 10;", n + 7, 3);
    faulty(a + "case d a land 1 10 bars d;", n + 24, 3);
    faulty("road a b 1;town a;town b;", 5, 3);
  }

  private static void numbers() {
    String a = "town a;town b;judge j a 60 civil;";
    int n = a.length();
    faulty(a + "road a b 10;", n + 9, 4);
    faulty(a + "judge k a 59 civil;", n + 10, 4);
    faulty(a + "judge k a 601;", n + 10, 4);
    faulty(a + "case c a land 61 9;", n + 14, 4);
    faulty(a + "case c a land 60 9;", n + 17, 4);
    faulty(a + "case c a land 60 301;", n + 17, 4);
  }

  private static void tooMany() {
    String towns = "town a;town b;town c;town d;town e;";
    faulty(towns + "town", towns.length(), 5);
    faulty(towns + "town a;", towns.length(), 5);
    String judges = towns + "judge p a 60 land;judge q a 60 land;judge r a 60 land;"
        + "judge s a 60 land;judge t a 60 land;judge u a 60 land;";
    says(judges, 11);
    faulty(judges + " judge v a 60 land;", judges.length() + 1, 5);
    says(judges + "case h a land 1 10 bars p bars q bars r bars s bars t bars u;", 12);
    faulty(judges + "case h a land 1 10 bars p bars q bars r bars s bars t bars u bars u;",
        judges.length() + 66, 2);
    StringBuilder cases = new StringBuilder("town a;");
    for (char c = 'a'; c < 'a' + 12; c++) {
      cases.append("case x").append(c).append(" a land 1 10;");
    }
    says(cases.toString(), 13);
    faulty(cases + "case", cases.length(), 5);
    faulty("town a;town case;", 12, 1);
    StringBuilder all = new StringBuilder(cases);
    for (char c = 'p'; c < 'p' + 6; c++) {
      all.append("judge ").append(c).append(" a 60 land;");
    }
    all.append("town b;town c;town d;town e;");
    says(all + "quarrel p u;road a e 1;", 25);
    faulty(all + "road xl", all.length() + 5, 3);
  }

  private static void faultLeavesAllElse() {
    SisterCourts x = Check.told("town a;judge j a 60 civil;case c a civil 1 10;");
    x.set(0, 0, 5);
    x.keep(1, false);
    Check.put(x, "town b;town c;town c;");
    Check.due("a fault", x.courts(21), fault(19, 2));
    Check.due("the tape is empty", x.count(5), 0);
    Check.due("towns", x.count(0), 1);
    Check.due("judges", x.count(1), 1);
    Check.due("cases", x.count(2), 1);
    Check.due("sittings", x.count(3), 1);
    Check.due("acts", x.count(4), 1);
    Check.due("keep(1, true)", x.keep(1, true), true);
    Check.due("load(0)", x.load(0), 10);
  }

  private static void goodTextBeginsAnew() {
    SisterCourts x = Check.told("town a;town b;road a b 3;judge j a 60 civil;case c a civil 1 10;");
    x.set(0, 0, 5);
    x.keep(0, false);
    x.keep(1, false);
    Check.due("another text", Check.tell(x, "town b;town a;judge k b 70 land;case d b land 2 20;"), 4);
    Check.due("sittings", x.count(3), 0);
    Check.due("acts", x.count(4), 0);
    Check.due("undo()", x.undo(), -1);
    Check.due("keep(0, true)", x.keep(0, true), false);
    Check.due("keep(1, true)", x.keep(1, true), false);
    Check.due("no road of the former text", x.travel(0, 1), -2);
    Check.due("judge(0, 1)", x.judge(0, 1), 70);
    Check.due("the former text's names are free", Check.tell(x, "town c;town j;"), 2);
    Check.due("count(1)", x.count(1), 0);
    Check.due("count(2)", x.count(2), 0);
  }

  private static void travel() {
    SisterCourts x = Check.told("town a;town b;town c;town d;town e;"
        + "road a b 9;road b c 9;road c d 9;road a d 1;road d a 9;");
    Check.due("told again: the latest, though longer", x.travel(0, 3), 9);
    Check.due("over another one", x.travel(0, 2), 18);
    Check.due("each way", x.travel(2, 0), 18);
    Check.due("no way", x.travel(0, 4), -2);
    Check.due("no way", x.travel(4, 3), -2);
    Check.due("to itself", x.travel(4, 4), 0);
    Check.due("travel(5, 0)", x.travel(5, 0), -1);
    Check.due("travel(0, 5)", x.travel(0, 5), -1);
    Check.due("travel(-1, 0)", x.travel(-1, 0), -1);
    Check.due("travel(0, -1)", x.travel(0, -1), -1);
    SisterCourts y = Check.told("town a;town b;town c;town d;town e;"
        + "road d e 9;road b a 9;road c d 9;road b c 9;");
    Check.due("the longest way", y.travel(0, 4), 36);
    SisterCourts z = Check.told("town a;town b;town c;road a b 0;road b c 2;road a c 3;");
    Check.due("a road of 0", z.travel(1, 0), 0);
    Check.due("the shorter one", z.travel(2, 0), 2);
  }

  private static void judge() {
    SisterCourts x = Check.told("town a;town b;judge j b 600 land;judge k a 60 family crime;"
        + "judge l b 61 civil crime family land;quarrel l j;quarrel l k;quarrel j l;");
    int[][] due = {{1, 600, 8, 4}, {0, 60, 6, 4}, {1, 61, 15, 3}};
    for (int judge = 0; judge < 3; judge++) {
      for (int what = 0; what < 4; what++) {
        Check.due("judge(" + judge + ", " + what + ")", x.judge(judge, what), due[judge][what]);
      }
    }
    Check.dueNoSuch("judge(3, 0)", () -> x.judge(3, 0));
    Check.dueNoSuch("judge(-1, 0)", () -> x.judge(-1, 0));
    Check.dueNoSuch("judge(0, 4)", () -> x.judge(0, 4));
    Check.dueNoSuch("judge(0, -1)", () -> x.judge(0, -1));
  }

  private static void file() {
    SisterCourts x = Check.told("town a;town b;judge j b 600 land;judge k a 60 family crime;"
        + "case c b land 60 300;case d a crime 0 10 bars k bars j;case e a civil 7 20 bars k;"
        + "case f a family 8 30;");
    int[][] due = {{1, 3, 60, 300, 0, -1, -1}, {0, 1, 0, 10, 3, -1, -1}, {0, 0, 7, 20, 2, -1, -1},
        {0, 2, 8, 30, 0, -1, -1}};
    for (int file = 0; file < 4; file++) {
      for (int what = 0; what < 7; what++) {
        Check.due("file(" + file + ", " + what + ")", x.file(file, what), due[file][what]);
      }
    }
    x.set(3, 1, 9);
    Check.due("file(3, 5)", x.file(3, 5), 1);
    Check.due("file(3, 6)", x.file(3, 6), 9);
    Check.dueNoSuch("file(4, 0)", () -> x.file(4, 0));
    Check.dueNoSuch("file(-1, 0)", () -> x.file(-1, 0));
    Check.dueNoSuch("file(0, 7)", () -> x.file(0, 7));
    Check.dueNoSuch("file(0, -1)", () -> x.file(0, -1));
  }

  private static int fault(int place, int kind) {
    return -2 - (8 * place + kind);
  }

  private static void says(String text, int lines) {
    Check.due("courts of '" + text + "'", Check.tell(new SisterCourts(), text), lines);
  }

  private static void faulty(String text, int place, int kind) {
    says(text, fault(place, kind));
  }
}
