/**
 * Each sentence of the document that names a boundary case, with a test of its own: the tape, its
 * tokens, the text's lines and their faults (==== 1, promises 1 to 3).
 */
public final class BoundsTextTest {
  private static final String[] KEPT_WORDS = {"town", "road", "judge", "quarrel", "case", "bars",
      "civil", "crime", "family", "land"};
  private static final String[] SORTS = {"civil", "crime", "family", "land"};
  /** A town, a judge, a case and a second one of the first two, for lines that name them. */
  private static final String TOLD = "town a;town b;judge j a 60 civil;judge k b 600 land;"
      + "case c a civil 0 10;";
  private static final String FIVE_TOWNS = "town a;town b;town d;town e;town f;";
  private static final String SIX_JUDGES = "judge p a 60 land;judge q a 60 land;judge r a 60 land;"
      + "judge s a 60 land;judge t a 60 land;judge u a 60 land;";

  public static void main(String[] args) {
    newObject();
    feed();
    feedFull();
    courtsTakesTheFirst();
    courtsBeginsAnew();
    courtsRefused();
    courtsFault();
    blanks();
    words();
    numbers();
    stops();
    noTokens();
    lines();
    road();
    judge();
    quarrel();
    cases();
    sorts();
    names();
    atMost();
    leastPlace();
    firstOfTheList();
    unfitTokens();
    theEnd();
    twice();
    notTold();
    cannotBe();
    oneTooMany();
    Check.end();
  }

  // ---- promises 1 to 3

  private static void newObject() {
    Check.sentence(1, "No TOWNS, JUDGES, CASES.");
    SisterCourts other = Check.told(TOLD);
    Check.sit(other, 0, 0, 5);
    other.keep(0, false);
    other.feed(1, 2, 3, 4, 5);
    SisterCourts x = new SisterCourts();
    for (int what = 0; what <= 5; what++) {
      Check.due("count(" + what + ")", x.count(what), 0);
    }
    Check.due("travel(0, 0)", x.travel(0, 0), -1);
    Check.dueNoSuch("judge(0, 0)", () -> x.judge(0, 0));
    Check.dueNoSuch("file(0, 0)", () -> x.file(0, 0));
    Check.dueNoSuch("owed(0)", () -> x.owed(0));
    Check.due("undo()", x.undo(), -1);
    Check.due("keep(0, true)", x.keep(0, true), false);
    Check.due("keep(1, true)", x.keep(1, true), false);
    Check.due("open(0, NONE)", x.open(0, -1), 0);
    Check.due("open(60, NONE)", x.open(60, -1), 0);
    Check.due("ranked(0)", x.ranked(0), -1);
    Check.due("waited()", x.waited(), -1);
    Check.due("the other object is as it was", other.count(3), 1);
  }

  private static void feed() {
    Check.sentence(2, "Twenty bytes come behind THE TAPE");
    SisterCourts x = new SisterCourts();
    Check.due("the first", x.feed(0x746f776e, 0x20613b74, 0x6f776e20, 0x623b746f, 0x776e2063), 20);
    Check.due("a line goes on in the next", x.feed(0x643b2020, 0, 0, 0, 0), 40);
    Check.due("town a;town b;town cd;", x.courts(22), 3);
    Check.sentence(2, "of each number the highest first");
    for (int place = 0; place < 20; place++) {
      int[] five = {0x20202020, 0x20202020, 0x20202020, 0x20202020, 0x20202020};
      int shift = 8 * (3 - place % 4);
      five[place / 4] ^= (0x20 ^ '?') << shift;
      SisterCourts y = new SisterCourts();
      y.feed(five[0], five[1], five[2], five[3], five[4]);
      Check.due("a wrong byte at " + place, y.courts(20), fault(place, 1));
    }
    Check.due("numbers below 0 are bytes, too", fedOnce(-1).courts(4), fault(0, 1));
    Check.due("Integer.MIN_VALUE", fedOnce(Integer.MIN_VALUE).courts(4), fault(0, 1));
    Check.due("255 is no sign before the next byte", fedOnce(0x202020ff).courts(4), fault(3, 1));
    Check.due("the highest bit of the lowest byte counts", fedOnce(0x202020a0).courts(4), fault(3, 1));
    Check.sentence(2, "how many it has");
    SisterCourts z = new SisterCourts();
    for (int many = 20; many <= 800; many += 20) {
      Check.due("feed", z.feed(0, 0, 0, 0, 0), many);
      Check.due("count(5)", z.count(5), many);
    }
  }

  private static SisterCourts fedOnce(int a) {
    SisterCourts x = new SisterCourts();
    x.feed(a, 0, 0, 0, 0);
    return x;
  }

  private static void feedFull() {
    Check.sentence(2, "NONE, and none come, if it would have more than 800.");
    SisterCourts x = new SisterCourts();
    Check.due("800 bytes", Check.put(x, blanks(793) + "town a;"), 800);
    Check.due("one feeding more", x.feed(0x3f3f3f3f, 0x3f3f3f3f, 0x3f3f3f3f, 0x3f3f3f3f, 0x3f3f3f3f), -1);
    Check.due("and again", x.feed(0, 0, 0, 0, 0), -1);
    Check.due("none came", x.count(5), 800);
    Check.due("none came over the first ones", x.courts(800), 1);
    Check.due("it is empty: they come again", x.feed(0, 0, 0, 0, 0), 20);
    for (int many = 40; many <= 780; many += 20) {
      x.feed(0x20202020, 0x20202020, 0x20202020, 0x20202020, 0x20202020);
    }
    Check.due("just 800", x.feed(0x20202020, 0x20202020, 0x20202020, 0x20202020, 0x2020203f), 800);
    Check.sentence(0, "THE TAPE has 800 bytes.");
    Check.due("one more than it has", x.courts(801), -1);
    Check.due("the first byte of the second filling", x.courts(800), fault(0, 1));
    SisterCourts y = new SisterCourts();
    Check.put(y, blanks(799) + "?");
    Check.due("the last byte", y.courts(800), fault(799, 1));
    Check.put(y, blanks(799) + "?");
    Check.due("all but the last byte", y.courts(799), 0);
  }

  private static void courtsTakesTheFirst() {
    Check.sentence(3, "The first n bytes of THE TAPE");
    for (int n = 0; n <= 21; n++) {
      int ofLine = n % 7;
      int due = ofLine == 0 ? n / 7 : fault(ofLine < 4 ? n - ofLine : n, 1);
      Check.due("the first " + n, cut("town a;town b;town d;", n), due);
    }
    Check.sentence(3, "(it is empty then)");
    SisterCourts x = new SisterCourts();
    Check.put(x, "town a;town b;town d;");
    Check.due("a part of it", x.courts(7), 1);
    Check.due("count(5)", x.count(5), 0);
    Check.due("none is left", x.courts(1), -1);
    Check.due("none of it is ahead of the next", Check.tell(x, "town b;"), 1);
    Check.put(x, "town a;");
    Check.due("by none of its bytes, too", x.courts(0), 0);
    Check.due("count(5)", x.count(5), 0);
    Check.put(x, "town a;");
    Check.due("by a fault, too", x.courts(6), fault(6, 1));
    Check.due("count(5)", x.count(5), 0);
    Check.sentence(3, "how many LINES");
    says("", 0);
    says("\n \n", 0);
    says("town a;", 1);
    says("town a;town b;" + "road a b 1;".repeat(71), 73);
  }

  private static void courtsBeginsAnew() {
    Check.sentence(3, "are the TEXT from now on");
    SisterCourts x = Check.told(TOLD + "road a b 1;quarrel j k;");
    Check.due("fewer of all", Check.tell(x, "town k;town j;judge a k 70 crime;case b j crime 1 20;"), 4);
    Check.due("what is told", Check.seen(x),
        Check.seen(Check.told("town k;town j;judge a k 70 crime;case b j crime 1 20;")));
    Check.due("no quarrel of the former text", x.judge(0, 3), 0);
    Check.due("no way of the former text", x.travel(0, 1), -2);
    Check.due("nothing at all", x.courts(0), 0);
    Check.due("what is told", Check.seen(x), Check.seen(new SisterCourts()));
    String full = TOLD + "road a b 1;quarrel j k;case d a land 1 10 bars k;";
    for (String between : new String[] {"", TOLD, full, full + "?", TOLD + "town a;"}) {
      SisterCourts y = Check.told(full);
      Check.tell(y, between);
      Check.due("after two others", Check.tell(y, TOLD + "case d a land 1 10;"), 6);
      Check.due("what is told", Check.seen(y), Check.seen(Check.told(TOLD + "case d a land 1 10;")));
    }
    Check.sentence(3, "no SITTINGS, nothing can be UNDONE, nothing is KEPT");
    for (String next : new String[] {TOLD, "", "town a;judge j a 60 civil;case c a civil 0 10;"}) {
      SisterCourts y = Check.told(TOLD);
      Check.sit(y, 0, 0, 5);
      y.keep(0, false);
      y.keep(1, false);
      y.clear(0);
      Check.sit(y, 0, 0, 7);
      Check.due("lines", Check.tell(y, next) >= 0, true);
      Check.due("sittings", y.count(3), 0);
      Check.due("judges of cases", Check.judges(y), next.isEmpty() ? "" : "-1");
      Check.due("acts", y.count(4), 0);
      Check.due("undo()", y.undo(), -1);
      Check.due("keep(0, true)", y.keep(0, true), false);
      Check.due("keep(1, true)", y.keep(1, true), false);
    }
  }

  private static void courtsRefused() {
    Check.sentence(3, "NONE: it has not so many, n is below 0 (THE TAPE stays).");
    SisterCourts x = anActedOne();
    Check.put(x, "town z;");
    for (int n : new int[] {21, 22, 40, 800, 801, Integer.MAX_VALUE, -1, -2, -20, Integer.MIN_VALUE}) {
      Check.due("courts(" + n + ")", x.courts(n), -1);
      Check.due("the tape", x.count(5), 20);
    }
    Check.due("all else stays", x.count(3), 1);
    Check.due("all else stays", x.count(4), 2);
    Check.due("its bytes stay", x.courts(7), 1);
    Check.due("the new text is told", x.count(1), 0);
    Check.due("an empty one has none", x.courts(1), -1);
    Check.due("an empty one has not even one below 0", x.courts(-1), -1);
  }

  private static SisterCourts anActedOne() {
    SisterCourts x = Check.told("town a;judge j a 60 civil;judge k a 60 civil;case c a civil 0 10;");
    x.keep(1, false);
    Check.sit(x, 0, 0, 5);
    x.keep(0, false);
    x.even(1);
    return x;
  }

  private static void courtsFault() {
    Check.sentence(3, "-2 less (8 * place + kind): a FAULT (all else stays).");
    Check.due("the least place, kind 1", Check.tell(new SisterCourts(), "?"), -3);
    Check.due("place 12, kind 2", Check.tell(new SisterCourts(), "town a;town a;"), -100);
    Check.due("place 5, kind 3", Check.tell(new SisterCourts(), "road a b 1;"), -45);
    Check.due("place 17, kind 4", Check.tell(new SisterCourts(), "town a;judge j a 59 civil;"), -142);
    Check.due("place 35, kind 5", Check.tell(new SisterCourts(), FIVE_TOWNS + "town g;"), -287);
    Check.due("the greatest place", Check.tell(new SisterCourts(), blanks(796) + "town"), -6403);
    String[] faulty = {"?", "town b;town d;town d;", "town b;judge l b 600 land;judge m zz 60 land;",
        "town b;town a;road a b 10;", FIVE_TOWNS + "town g;", "town z;judge p z 60 land;case q z land 1",
        "town a;judge j a 60 land;case c a land 9 99 bars j"};
    for (String text : faulty) {
      SisterCourts x = anActedOne();
      Check.due("a fault in " + text, Check.tell(x, text) <= -3, true);
      Check.due("all else after a fault in " + text, Check.whole(x), Check.whole(anActedOne()));
      Check.due("the next text has nothing of it", Check.tell(x, FIVE_TOWNS + "judge z a 60 land;"), 6);
      Check.due("no road of it", x.travel(0, 1), -2);
    }
  }

  // ---- tokens

  private static void blanks() {
    Check.sentence(0, "Blanks, 32, 10, part TOKENS and mean nothing else");
    says(" \n town \n\n  a\n;\n \ntown\nb ;  ", 2);
    says("town a ;", 1);
    says("town a\n;", 1);
    says("town a;town b;road a b 1 ;judge j a 60 civil\nland;case c a land 1\n10 bars\nj;", 5);
    says("town a;town b;road a b1;judge j a60civil;case c a land1 10bars j;", 5);
    faulty("|to wn a;", 1);
    faulty("town a |b;", 1);
    faulty("town a\n|b;", 1);
    faulty("town a;town b;road a b 1 |0;", 1);
    faulty("town a;town b;road a b 1\n|0;", 1);
    faulty("|towna;", 1);
    for (int sign : new int[] {0, 9, 11, 12, 13, 31, 33, 127, 128, 133, 138, 160, 255}) {
      faulty("town a|" + (char) sign + ";", 1);
    }
  }

  private static void words() {
    Check.sentence(0, "WORDS (small letters, each that stand together; 1 to 7)");
    for (char letter = 'a'; letter <= 'z'; letter++) {
      says("town " + letter + ";", 1);
      says("town a" + letter + ";", 1);
    }
    for (int sign : new int[] {'a' - 1, 'z' + 1, 'A', 'Z', '_', 'a' + 128, 'z' + 128}) {
      faulty("town |" + (char) sign + ";", 1);
      faulty("town a|" + (char) sign + ";", 1);
    }
    says("town a;town abcdefg;town zzzzzzz;", 3);
    faulty("town |abcdefgh;", 1);
    faulty("town |" + "a".repeat(100) + ";", 1);
    faulty("town |" + "a".repeat(795), 1);
    faulty("|townaaaa;", 1);
    says("town abcdefg;town abcdeff;town bbcdefg;town abcdef;", 4);
    faulty("town abcdefg;town |abcdefg;", 2);
    Check.due("seven of eight letters, cut by n", cut("town abcdefgh;", 12), fault(12, 1));
    Check.due("eight of eight letters, cut by n", cut("town abcdefgh;", 13), fault(5, 1));
    says("town a;town b;road a b1;", 3);
  }

  private static int cut(String text, int n) {
    SisterCourts x = new SisterCourts();
    Check.put(x, text);
    return x.courts(n);
  }

  private static void numbers() {
    Check.sentence(0, "NUMBERS (digits, likewise; 1 to 3)");
    for (int digit = 0; digit <= 9; digit++) {
      says("town a;town b;road a b " + digit + ";", 3);
      says("town a;town b;road a b 0" + digit + ";", 3);
      says("town a;town b;road a b 00" + digit + ";", 3);
      faulty("town a;town b;road a b |000" + digit + ";", 1);
    }
    SisterCourts x = Check.told("town a;judge j a 060 land;judge k a 123 land;case c a land 007 100;"
        + "case d a land 45 098;case e a land 6 255;");
    Check.due("060", x.judge(0, 1), 60);
    Check.due("123", x.judge(1, 1), 123);
    Check.due("007", x.file(0, 2), 7);
    Check.due("100", x.file(0, 3), 100);
    Check.due("45", x.file(1, 2), 45);
    Check.due("098", x.file(1, 3), 98);
    Check.due("255", x.file(2, 3), 255);
    for (int sign : new int[] {'0' - 1, '9' + 1, '0' + 128, '+', '-', '.'}) {
      faulty("town a;town b;road a b |" + (char) sign + ";", 1);
      faulty("town a;town b;road a b 1|" + (char) sign + ";", 1);
    }
    faulty("town a;judge j a |0100 land;", 1);
    faulty("town a;judge j a |4294967396 land;", 1);
    faulty("town a;judge j a |" + "0".repeat(700) + "60 land;", 1);
    Check.due("one digit of two, cut by n", cut("town a;town b;road a b 10;", 24), fault(24, 1));
    Check.due("two digits of two, cut by n", cut("town a;town b;road a b 10;", 25), fault(23, 4));
    Check.due("three digits of four, cut by n", cut("town a;town b;road a b 0001;", 26), fault(26, 1));
    faulty("town a;judge j a |1000;", 1);
    faulty("town a;judge j a |999;", 4);
  }

  private static void stops() {
    Check.sentence(0, "; alone");
    says("town a;town b;", 2);
    faulty("town a;|;", 1);
    faulty("town a;|;town b;", 1);
    faulty("town a; |;", 1);
    faulty("|;", 1);
    faulty("town a|:", 1);
    faulty("town a|<", 1);
  }

  private static void noTokens() {
    Check.sentence(0, "(longer ones, all else are no TOKENS)");
    for (int sign = 0; sign < 256; sign++) {
      boolean letter = sign >= 'a' && sign <= 'z';
      boolean blank = sign == 32 || sign == 10;
      String text = "town a" + (char) sign + ";";
      says(text, letter || blank ? 1 : sign == ';' ? fault(7, 1) : fault(6, 1));
      says(String.valueOf((char) sign), blank ? 0 : fault(0, 1));
    }
    faulty("|abcdefgh", 1);
    faulty("|1234", 1);
    faulty("town a;judge j a 60 civil |crimecrime;", 1);
    faulty("town a;judge j a 60 civil|1000;", 1);
  }

  // ---- lines

  private static void lines() {
    Check.sentence(0, "TEXT: { LINE }");
    says("", 0);
    says("town a;", 1);
    says(TOLD, 5);
    faulty("town a|", 1);
    faulty("town a;town b|", 1);
  }

  private static void road() {
    Check.sentence(0, "two TOWNS, unlike;");
    says("town a;town b;road a b 1;road b a 1;", 4);
    faulty("town a;town b;road a |a 1;", 2);
    faulty("town a;town b;road b |b 1;", 2);
    Check.sentence(0, "0 to 9 DAYS");
    for (int days = 0; days <= 9; days++) {
      Check.due("a road of " + days, Check.told("town a;town b;road a b " + days + ";").travel(0, 1), days);
    }
    for (int days : new int[] {10, 11, 19, 90, 99, 100, 266, 999}) {
      faulty("town a;town b;road a b |" + days + ";", 4);
    }
    faulty("town a;town b;road a b |010;", 4);
    Check.sentence(0, "each way");
    SisterCourts x = Check.told("town a;town b;town d;road a b 3;road d b 4;");
    Check.due("as told", x.travel(0, 1), 3);
    Check.due("the other way", x.travel(1, 0), 3);
    Check.due("as told", x.travel(2, 1), 4);
    Check.due("the other way", x.travel(1, 2), 4);
    Check.sentence(0, "told again: the latest");
    Check.due("longer", Check.told("town a;town b;road a b 3;road a b 9;").travel(0, 1), 9);
    Check.due("shorter", Check.told("town a;town b;road a b 3;road a b 0;").travel(0, 1), 0);
    SisterCourts y = Check.told("town a;town b;road a b 3;road b a 5;");
    Check.due("the other way round", y.travel(0, 1), 5);
    Check.due("the other way round", y.travel(1, 0), 5);
    SisterCourts z = Check.told("town a;town b;town d;road a b 1;road a b 7;road b d 1;road a b 8;");
    Check.due("the third time", z.travel(1, 0), 8);
    Check.due("on a longer way, too", z.travel(0, 2), 9);
  }

  private static void judge() {
    Check.sentence(0, "his HOME, a TOWN;");
    Check.due("the second town", Check.told(TOLD).judge(1, 0), 1);
    faulty(TOLD + "judge l |j 60 land;", 3);
    faulty(TOLD + "judge l |c 60 land;", 3);
    faulty(TOLD + "judge l |l 60 land;", 3);
    Check.sentence(0, "MINUTES a DAY, 60 to 600;");
    for (int minutes : new int[] {60, 61, 255, 256, 599, 600}) {
      Check.due("" + minutes, Check.told("town a;judge j a " + minutes + " land;").judge(0, 1), minutes);
    }
    for (int minutes : new int[] {0, 1, 9, 10, 59, 601, 602, 700, 999}) {
      faulty("town a;judge j a |" + minutes + " land;", 4);
    }
    faulty("town a;judge j a |059 land;", 4);
    Check.sentence(0, "SORTS once each");
    for (String sort : SORTS) {
      says("town a;judge j a 60 " + sort + ";", 2);
      faulty("town a;judge j a 60 " + sort + " |" + sort + ";", 2);
      for (String other : SORTS) {
        if (!other.equals(sort)) {
          says("town a;judge j a 60 " + sort + " " + other + ";", 2);
          faulty("town a;judge j a 60 " + sort + " " + other + " |" + sort + ";", 2);
        }
      }
    }
    says("town a;judge j a 60 land family crime civil;judge k a 60 land;", 3);
    faulty("town a;judge j a 60 land family crime civil |land;", 2);
    faulty("town a;judge j a 60 land family crime civil |civil;", 2);
    Check.sentence(0, "judge NAME NAME NUMBER SORT { SORT } ;");
    faulty("town a;judge j a 60 |;", 1);
    faulty("town a;judge j a 60 land family crime civil |j;", 1);
    faulty("town a;judge j a 60 land family crime civil|", 1);
  }

  private static void quarrel() {
    Check.sentence(0, "two JUDGES, unlike;");
    says(TOLD + "quarrel j k;", 6);
    faulty(TOLD + "quarrel j |j;", 2);
    faulty(TOLD + "quarrel k |k;", 2);
    Check.sentence(0, "told again is as once");
    SisterCourts x = Check.told(TOLD + "quarrel j k;quarrel j k;quarrel k j;quarrel j k;");
    Check.due("judge(0, 3)", x.judge(0, 3), 2);
    Check.due("judge(1, 3)", x.judge(1, 3), 1);
    says(TOLD + "quarrel j k;quarrel j k;quarrel k j;", 8);
    Check.due("all else", Check.seen(x), Check.seen(Check.told(TOLD + "quarrel k j;")));
  }

  private static void cases() {
    Check.sentence(0, "its TOWN;");
    Check.due("the second town", Check.told(TOLD + "case d b land 1 10;").file(1, 0), 1);
    faulty(TOLD + "case d |j land 1 10;", 3);
    faulty(TOLD + "case d |c land 1 10;", 3);
    faulty(TOLD + "case d |d land 1 10;", 3);
    Check.sentence(0, "DAY on which it was FILED, 0 to 60;");
    for (int day : new int[] {0, 1, 9, 10, 59, 60}) {
      Check.due("" + day, Check.told("town a;case c a land " + day + " 10;").file(0, 2), day);
    }
    for (int day : new int[] {61, 62, 100, 256, 316, 999}) {
      faulty("town a;case c a land |" + day + " 10;", 4);
    }
    Check.sentence(0, "its MINUTES, 10 to 300;");
    for (int minutes : new int[] {10, 11, 255, 256, 299, 300}) {
      Check.due("" + minutes, Check.told("town a;case c a land 0 " + minutes + ";").file(0, 3), minutes);
    }
    for (int minutes : new int[] {0, 1, 9, 301, 302, 310, 600, 999}) {
      faulty("town a;case c a land 0 |" + minutes + ";", 4);
    }
    Check.sentence(0, "JUDGES, once each");
    Check.due("none", Check.told(TOLD).file(0, 4), 0);
    Check.due("one", Check.told(TOLD + "case d a land 0 10 bars k;").file(1, 4), 2);
    Check.due("both", Check.told(TOLD + "case d a land 0 10 bars k bars j;").file(1, 4), 3);
    faulty(TOLD + "case d a land 0 10 bars k bars |k;", 2);
    faulty(TOLD + "case d a land 0 10 bars j bars k bars |j;", 2);
    says(TOLD + "case d a land 0 10 bars j;case e a land 0 10 bars j;", 7);
    String six = "town a;" + SIX_JUDGES + "case c a land 0 10 bars u bars t bars s bars r bars q bars p";
    Check.due("all six", Check.told(six + ";").file(0, 4), 63);
    faulty(six + " bars |p;", 2);
    faulty(six + " bars |u;", 2);
  }

  private static void sorts() {
    Check.sentence(0, "SORT: civil, crime, family or land.");
    for (int sort = 0; sort < 4; sort++) {
      SisterCourts x = Check.told("town a;judge j a 60 " + SORTS[sort] + ";case c a " + SORTS[sort] + " 0 10;");
      Check.due(SORTS[sort] + " of a judge", x.judge(0, 2), 1 << sort);
      Check.due(SORTS[sort] + " of a case", x.file(0, 1), sort);
    }
    for (String none : new String[] {"civi", "civils", "crim", "famil", "lan", "lands", "a", "sort",
        "town", "road", "judge", "quarrel", "case", "bars", "5", ";"}) {
      faulty("town a;judge j a 60 |" + none + ";", 1);
      faulty("town a;case c a |" + none + " 0 10;", 1);
    }
  }

  private static void names() {
    Check.sentence(0, "A NAME is a WORD but town, road, judge, quarrel, case, bars, civil, crime, family, land");
    for (String word : KEPT_WORDS) {
      for (String line : new String[] {"town |*;", "road |* b 1;", "road a |* 1;", "judge |* a 60 land;",
          "judge l |* 60 land;", "quarrel |* k;", "quarrel j |*;", "case |* a land 1 10;",
          "case d |* land 1 10;", "case d a land 1 10 bars |*;", "case d a land 1 10 bars k bars |*;"}) {
        faulty(TOLD + line.replace("*", word), 1);
      }
      if (word.length() < 7) {
        says("town " + word + "s;", 1);
      }
      says("town " + word.substring(1) + ";", 1);
      says("town " + word.substring(0, word.length() - 1) + ";", 1);
    }
    Check.sentence(0, "no two are alike");
    for (String name : new String[] {"a", "b", "j", "k", "c"}) {
      faulty(TOLD + "town |" + name + ";", 2);
      faulty(TOLD + "judge |" + name + " a 60 land;", 2);
      faulty(TOLD + "case |" + name + " a land 0 10;", 2);
    }
    says("town a;town aa;town aaaaaaa;judge aaa a 60 land;case aaaa a land 0 10;", 5);
  }

  private static void atMost() {
    Check.sentence(0, "At most 5 TOWNS, 6 JUDGES, 12 CASES");
    says(FIVE_TOWNS, 5);
    faulty(FIVE_TOWNS + "|town g;", 5);
    says("town a;" + SIX_JUDGES, 7);
    faulty("town a;" + SIX_JUDGES + "|judge v a 60 land;", 5);
    says("town a;" + cases(12), 13);
    faulty("town a;" + cases(12) + "|case v a land 0 10;", 5);
    String all = FIVE_TOWNS + SIX_JUDGES + cases(12);
    says(all, 23);
    SisterCourts x = Check.told(all);
    Check.due("towns", x.count(0), 5);
    Check.due("judges", x.count(1), 6);
    Check.due("cases", x.count(2), 12);
    says(all + "road a f 9;quarrel p u;", 25);
    String turned = "town a;" + cases(12) + SIX_JUDGES + FIVE_TOWNS.substring(7);
    says(turned + "road a f 9;quarrel p u;", 25);
    says("town a;" + cases(12) + FIVE_TOWNS.substring(7) + SIX_JUDGES + "quarrel u p;road f a 9;", 25);
    faulty(turned + "road a |xl 9;", 3);
    faulty(all + "|town g;", 5);
    faulty(all + "|judge g a 60 land;", 5);
    faulty(all + "|case g a land 0 10;", 5);
    Check.sentence(0, "numbered as told");
    SisterCourts y = Check.told("town z;judge n z 61 land;case y z land 3 11;town b;case w b land 2 12;"
        + "judge m b 62 land;town a;judge l a 63 land;case x a land 1 13;");
    for (int i = 0; i < 3; i++) {
      Check.due("the home of judge " + i, y.judge(i, 0), i);
      Check.due("the minutes of judge " + i, y.judge(i, 1), 61 + i);
      Check.due("the town of case " + i, y.file(i, 0), i);
      Check.due("the day of case " + i, y.file(i, 2), 3 - i);
      Check.due("the minutes of case " + i, y.file(i, 3), 11 + i);
    }
  }

  private static String cases(int many) {
    StringBuilder text = new StringBuilder();
    for (int i = 0; i < many; i++) {
      text.append("case x").append((char) ('a' + i)).append(" a land 0 10;");
    }
    return text.toString();
  }

  // ---- faults

  private static void leastPlace() {
    Check.sentence(0, "FAULTS, the one whose place is least;");
    String told = FIVE_TOWNS + "judge j a 60 land;judge k a 60 land;case c a land 0 10;";
    String[] lines = {"|zz;", "case |j a land 0 10;", "road a |zz 1;", "road a b |10;", "|town g;"};
    for (int first = 0; first < 5; first++) {
      for (String then : lines) {
        faulty(told + lines[first] + then.replace("|", ""), first + 1);
        faulty(told + lines[first] + "?" + then.replace("|", ""), first + 1);
      }
    }
    faulty(told + "judge |j zz 59 land land ?", 2);
    faulty(told + "judge l |zz 59 land land ?", 3);
    faulty(told + "judge l a |59 land land ?", 4);
    faulty(told + "judge l a 60 land |land ?", 2);
    faulty(told + "judge l a 60 land |? land", 1);
    faulty(told + "case |c zz land 61 9 bars zz", 2);
    faulty(told + "case x |zz land 61 9 bars zz", 3);
    faulty(told + "case x a |zz 61 9 bars zz", 1);
    faulty(told + "case x a land |61 9 bars zz", 4);
    faulty(told + "case x a land 60 |9 bars zz", 4);
    faulty(told + "case x a land 60 10 bars |zz bars zz", 3);
    faulty(told + "road |zz zz 10;", 3);
    faulty(told + "road a |a 10;", 2);
    faulty(told + "quarrel |zz zz 5", 3);
    faulty(told + "quarrel j |j 5", 2);
    faulty(told + "|town a a", 5);
  }

  private static void firstOfTheList() {
    Check.sentence(0, "of one place the first of this list");
    faulty(FIVE_TOWNS + "road a |town g;", 1);
    faulty("town a;" + SIX_JUDGES + "quarrel p |judge v", 1);
    faulty("town a;" + cases(11) + "case |case", 1);
    faulty(FIVE_TOWNS + "judge j a 60 land |town g;", 1);
    faulty("town |999;", 1);
    faulty("town a |a;", 1);
    faulty("town a |zz;", 1);
    faulty("town a;judge j a 60 civil |zz;", 1);
    faulty("town a;judge j a |9999 civil;", 1);
    faulty("town a;judge j a 60 civil |abcdefgh;", 1);
    faulty("town a;road a |a zz;", 2);
    faulty(TOLD + "case d a land 0 10 bars k bars |k zz;", 2);
    faulty(TOLD + "town |c;", 2);
  }

  /** What may stand behind each beginning of a line; all else is a token with which no text goes on. */
  private static void unfitTokens() {
    Check.sentence(0, "1 the first byte that begins no TOKEN, TOKEN with which no TEXT goes on (its first byte;");
    String sorts = " civil crime family land ";
    String[][] beginnings = {{"", " town road judge quarrel case END "}, {"town", " zz "}, {"town zz", " ; "},
        {"road", " a "}, {"road a", " b "}, {"road a b", " 1 "}, {"road a b 1", " ; "}, {"judge", " zz "},
        {"judge zz", " a "}, {"judge zz a", " 60 "}, {"judge zz a 60", sorts},
        {"judge zz a 60 crime", " civil family land ; "}, {"quarrel", " j "}, {"quarrel j", " k "},
        {"quarrel j k", " ; "}, {"case", " zz "}, {"case zz", " a "}, {"case zz a", sorts},
        {"case zz a land", " 1 "}, {"case zz a land 1", " 60 "}, {"case zz a land 1 60", " bars ; "},
        {"case zz a land 1 60 bars", " j k "}, {"case zz a land 1 60 bars j", " bars ; "}};
    for (String[] beginning : beginnings) {
      for (String token : ("town road judge quarrel case bars civil crime family land a b zz j k 1 60 ; "
          + "END ? A abcdefgh 1000").split(" ")) {
        if (beginning[1].contains(" " + token + " ")) {
          goesOn(TOLD + beginning[0], token);
        } else if (!sameKind(token, beginning[1])) {
          faulty(TOLD + beginning[0] + (beginning[0].isEmpty() || token.equals("END") ? "|" : " |")
              + (token.equals("END") ? "" : token), 1);
        }
      }
    }
  }

  /** The text may still lack its end, but the token itself is fit. */
  private static void goesOn(String ahead, String token) {
    String text = token.equals("END") ? ahead : ahead + " " + token;
    int answer = Check.tell(new SisterCourts(), text);
    Check.due("'" + text + "' goes on", answer >= 0 || answer == fault(text.length(), 1), true);
  }

  /** A name where another one is asked, a number where another one: faults of other kinds, elsewhere. */
  private static boolean sameKind(String token, String fit) {
    boolean name = " a b zz j k ".contains(" " + token + " ");
    boolean nameFit = fit.equals(" zz ") || fit.equals(" a ") || fit.equals(" b ") || fit.equals(" j ")
        || fit.equals(" k ") || fit.equals(" j k ");
    boolean number = token.equals("1") || token.equals("60");
    boolean numberFit = fit.equals(" 1 ") || fit.equals(" 60 ");
    boolean sort = " civil crime family land ".contains(" " + token + " ");
    return name && nameFit || number && numberFit || sort && fit.contains(" family ");
  }

  private static void theEnd() {
    Check.sentence(0, "the end: how many bytes there are");
    faulty("town|", 1);
    faulty("town   \n|", 1);
    faulty("town a\n|", 1);
    faulty("town a;town|", 1);
    says(blanks(799) + "a", fault(799, 1));
    says(blanks(796) + "town", fault(800, 1));
    says("town" + blanks(796), fault(800, 1));
    says("town a" + blanks(794), fault(800, 1));
    Check.due("n, not what the tape has", cut("town a ; town b;", 13), fault(13, 1));
    Check.due("n, not what the tape has", cut("town a;", 6), fault(6, 1));
    Check.due("a wrong byte behind n is none", cut("town a;?", 7), 1);
    Check.due("a wrong byte behind n is none", cut("town a?", 6), fault(6, 1));
  }

  private static void twice() {
    Check.sentence(0, "2 a NAME given that is there");
    faulty("town a;town |a;", 2);
    faulty("town a;judge |a a 60 land;", 2);
    faulty("town a;case |a a land 0 10;", 2);
    faulty("town a;judge j a 60 land;town |j;", 2);
    faulty("town a;judge j a 60 land;judge |j a 60 land;", 2);
    faulty("town a;judge j a 60 land;case |j a land 0 10;", 2);
    faulty("town a;case c a land 0 10;town |c;", 2);
    faulty("town a;case c a land 0 10;judge |c a 60 land;", 2);
    faulty("town a;case c a land 0 10;case |c a land 0 10;", 2);
    faulty("town a;" + cases(11) + "case |xk a land 0 10;", 2);
    Check.sentence(0, "a TOWN or JUDGE told twice where two must be unlike");
    faulty("town a;road a |a 1;", 2);
    faulty("town a;judge j a 60 land;quarrel j |j;", 2);
    Check.sentence(0, "a SORT, a JUDGE barred for the second time");
    faulty("town a;judge j a 60 land |land;", 2);
    faulty("town a;judge j a 60 land crime |land civil;", 2);
    faulty("town a;judge j a 60 land;case c a land 0 10 bars j bars |j;", 2);
    says("town a;judge j a 60 land;case c a land 0 10 bars j;case d a land 0 10 bars j;", 4);
  }

  private static void notTold() {
    Check.sentence(0, "3 a NAME that is not told ahead");
    faulty("road |a b 1;town a;town b;", 3);
    faulty("town a;road a |b 1;town b;", 3);
    faulty("judge j |a 60 land;town a;", 3);
    faulty("case c |a land 0 10;town a;", 3);
    faulty("town a;quarrel |j k;judge j a 60 land;judge k a 60 land;", 3);
    faulty("town a;judge j a 60 land;quarrel j |k;judge k a 60 land;", 3);
    faulty("town a;case c a land 0 10 bars |j;judge j a 60 land;", 3);
    faulty(TOLD + "road |aa b 1;", 3);
    faulty(TOLD + "judge l |l 60 land;", 3);
    faulty(TOLD + "case d a land 0 10 bars |d;", 3);
    Check.sentence(0, "or is none of what is asked");
    for (String name : new String[] {"j", "k", "c"}) {
      faulty(TOLD + "road |" + name + " b 1;", 3);
      faulty(TOLD + "road a |" + name + " 1;", 3);
      faulty(TOLD + "judge l |" + name + " 60 land;", 3);
      faulty(TOLD + "case d |" + name + " land 0 10;", 3);
    }
    for (String name : new String[] {"a", "b", "c"}) {
      faulty(TOLD + "quarrel |" + name + " k;", 3);
      faulty(TOLD + "quarrel j |" + name + ";", 3);
      faulty(TOLD + "case d a land 0 10 bars |" + name + ";", 3);
      faulty(TOLD + "case d a land 0 10 bars j bars |" + name + ";", 3);
    }
  }

  private static void cannotBe() {
    Check.sentence(0, "4 a NUMBER that can't be");
    faulty(TOLD + "road a b |10;", 4);
    faulty(TOLD + "judge l a |59 land;", 4);
    faulty(TOLD + "judge l a |601 land;", 4);
    faulty(TOLD + "case d a land |61 10;", 4);
    faulty(TOLD + "case d a land 60 |9;", 4);
    faulty(TOLD + "case d a land 60 |301;", 4);
    says(TOLD + "road a b 9;judge l a 60 land;judge m a 600 land;case d a land 60 10;case e a land 0 300;", 10);
  }

  private static void oneTooMany() {
    Check.sentence(0, "5 the WORD town, judge, case of one too many");
    faulty(FIVE_TOWNS + "|town", 5);
    faulty(FIVE_TOWNS + " \n|town ?", 5);
    faulty(FIVE_TOWNS + "|town a;", 5);
    faulty(FIVE_TOWNS + "|town town;", 5);
    faulty("town a;" + SIX_JUDGES + "|judge", 5);
    faulty("town a;" + SIX_JUDGES + "|judge p zz", 5);
    faulty("town a;" + cases(12) + "|case", 5);
    faulty("town a;" + cases(12) + "|case xa", 5);
    says(FIVE_TOWNS + SIX_JUDGES + "case c f land 0 10;", 12);
  }

  // ---- what the tests above use

  private static String blanks(int many) {
    return " \n".repeat(many / 2) + (many % 2 == 0 ? "" : " ");
  }

  private static int fault(int place, int kind) {
    return -2 - (8 * place + kind);
  }

  private static void says(String text, int due) {
    Check.due("courts of '" + text + "'", Check.tell(new SisterCourts(), text), due);
  }

  /** The place of the fault is marked by the sign | that is left out of the text. */
  private static void faulty(String marked, int kind) {
    int place = marked.indexOf('|');
    says(marked.substring(0, place) + marked.substring(place + 1), fault(place, kind));
  }
}
