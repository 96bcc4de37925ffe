import java.util.NoSuchElementException;

/**
 * Sister courts' calendar: judges lent between towns by cases' ages, travel and quarrels, fair load.
 *
 * Every row that a call needs is made with the object and used again, so no call makes objects.
 */
public final class SisterCourts {
  public static final int NONE = -1;

  private static final int OTHERS = -2;
  private static final int MOST_TOWNS = 5;
  private static final int MOST_JUDGES = 6;
  private static final int MOST_CASES = 12;
  private static final int MOST_NAMES = MOST_TOWNS + MOST_JUDGES + MOST_CASES;
  private static final int MOST_SORTS = 4;
  private static final int MOST_IN_BEST = 5;
  private static final int MOST_FAIRER = 50;
  private static final int MOST_ACTS = 12;
  private static final int KEEPS = 2;
  private static final int LAST_DAY = 60;
  private static final int AWAY_MINUTES = 60;
  private static final int TAPE_BYTES = 800;
  private static final int FED_BYTES = 20;
  /** Longer than any way and any calendar, so that it loses every comparison by itself. */
  private static final int NO_WAY = 1000;

  private static final int FLOAT_NAN = 0x7fc00000;
  private static final long DOUBLE_NAN = 0x7ff8000000000000L;
  private static final int NO_SHARE = 0x80000000;

  private final byte[] tape;
  private int taped;
  private final Reader reader;
  private Courts told;
  /** The next TEXT is read into this one, so that a FAULT leaves the one that is told as it is. */
  private Courts spare;
  private final Calendar calendar;
  private final BestSearch search;
  private final FairerSearch balance;
  private final Debts debts;
  private final Acts acts;

  public SisterCourts() {
    tape = new byte[TAPE_BYTES];
    taped = 0;
    told = new Courts();
    spare = new Courts();
    reader = new Reader(tape, spare);
    calendar = new Calendar(told);
    search = new BestSearch(calendar);
    balance = new FairerSearch(calendar);
    debts = new Debts(calendar);
    acts = new Acts(calendar);
  }

  public int feed(int a, int b, int c, int d, int e) {
    if (taped + FED_BYTES > TAPE_BYTES) {
      return NONE;
    }
    putOnTape(a);
    putOnTape(b);
    putOnTape(c);
    putOnTape(d);
    putOnTape(e);
    return taped;
  }

  private void putOnTape(int four) {
    for (int shift = 24; shift >= 0 && taped < TAPE_BYTES; shift -= 8) {
      tape[taped] = (byte) (four >> shift);
      taped++;
    }
  }

  public int courts(int n) {
    if (n < 0 || n > taped) {
      return NONE;
    }
    taped = 0;
    spare.forget();
    reader.start(n, spare);
    int lines = 0;
    while (lines < TAPE_BYTES && reader.hasMore()) {
      if (!reader.readLine()) {
        return reader.fault;
      }
      lines++;
    }
    beginWithSpare();
    return lines;
  }

  private void beginWithSpare() {
    Courts former = told;
    told = spare;
    spare = former;
    told.findWays();
    calendar.startFor(told);
    acts.forgetAll();
  }

  public int travel(int from, int to) {
    if (!told.hasTown(from) || !told.hasTown(to)) {
      return NONE;
    }
    int days = told.way(from, to);
    return days >= NO_WAY ? OTHERS : days;
  }

  public int judge(int judge, int what) throws NoSuchElementException {
    if (!told.hasJudge(judge)) {
      throw new NoSuchElementException("no such judge");
    }
    switch (what) {
      case 0:
        return told.home[judge];
      case 1:
        return told.daily[judge];
      case 2:
        return told.sorts[judge];
      case 3:
        return told.quarrels[judge];
      default:
        throw new NoSuchElementException("nothing such of a judge");
    }
  }

  public int file(int file, int what) throws NoSuchElementException {
    if (!told.hasCase(file)) {
      throw new NoSuchElementException("no such case");
    }
    switch (what) {
      case 0:
        return told.townOf[file];
      case 1:
        return told.sortOf[file];
      case 2:
        return told.filed[file];
      case 3:
        return told.length[file];
      case 4:
        return told.barred[file];
      case 5:
        return calendar.judgeOf[file];
      case 6:
        return calendar.dayOf[file];
      default:
        throw new NoSuchElementException("nothing such of a case");
    }
  }

  // ---- sittings

  public int why(int file, int judge, int day) {
    if (!told.hasCase(file) || !told.hasJudge(judge) || !isDay(day)) {
      return NONE;
    }
    return calendar.whyNot(file, judge, day);
  }

  public boolean set(int file, int judge, int day) {
    if (why(file, judge, day) != 0) {
      return false;
    }
    acts.begin();
    calendar.place(file, judge, day);
    return true;
  }

  public int clear(int file) {
    if (!told.hasCase(file) || !calendar.hasSitting(file)) {
      return NONE;
    }
    int day = calendar.dayOf[file];
    acts.begin();
    calendar.remove(file);
    return day;
  }

  public int sits(int judge, int day) {
    if (!told.hasJudge(judge) || !isDay(day)) {
      return OTHERS;
    }
    return calendar.townOn(judge, day);
  }

  public int minutes(int judge, int day) {
    if (!told.hasJudge(judge) || !isDay(day)) {
      return NONE;
    }
    return calendar.minutesOn(judge, day);
  }

  public int open(int day, int k) {
    if (!isDay(day)) {
      return OTHERS;
    }
    int found = calendar.listOpen(day);
    if (k == NONE) {
      return found;
    }
    return k >= 0 && k < found ? calendar.oldest[k] : OTHERS;
  }

  public int go(int from, int to) {
    if (!isDay(from) || !isDay(to) || to < from) {
      return NONE;
    }
    acts.begin();
    int sittings = 0;
    for (int day = from; day <= to; day++) {
      sittings += calendar.goThrough(day);
    }
    return sittings;
  }

  // ---- the best of a day

  public long best(int day, int n, int what) {
    if (!mayAskBest(day, n) || what < 0 || what > 2) {
      return NONE;
    }
    search.find(day, n);
    switch (what) {
      case 0:
        return search.heard;
      case 1:
        return search.least.greatest();
      default:
        return search.least.sumOfSquares();
    }
  }

  public int bestOf(int day, int n, int i) {
    if (!mayAskBest(day, n)) {
      return OTHERS;
    }
    search.find(day, n);
    return i >= 0 && i < search.asked ? search.chosen[i] : OTHERS;
  }

  public int take(int day, int n) {
    if (!mayAskBest(day, n)) {
      return NONE;
    }
    search.find(day, n);
    acts.begin();
    return search.placeAll();
  }

  private static boolean mayAskBest(int day, int n) {
    return isDay(day) && n >= 0 && n <= MOST_IN_BEST;
  }

  // ---- loads

  public int load(int judge) {
    return told.hasJudge(judge) ? calendar.loadOf(judge) : NONE;
  }

  public int ranked(int k) {
    for (int judge = 0; judge < told.judges; judge++) {
      if (calendar.placeByLoad(judge) == k) {
        return judge;
      }
    }
    return NONE;
  }

  public int fairer(int what) {
    if (what != 0 && what != 1) {
      return NONE;
    }
    balance.find();
    return what == 0 ? balance.file : balance.judge;
  }

  public int even(int n) {
    if (n < 1 || n > MOST_FAIRER) {
      return NONE;
    }
    acts.begin();
    for (int given = 0; given < n; given++) {
      balance.find();
      if (balance.file == NONE) {
        return given;
      }
      calendar.place(balance.file, balance.judge, calendar.dayOf[balance.file]);
    }
    return n;
  }

  // ---- towns

  public int lent(int from, int to) {
    if (!told.hasTown(from) || !told.hasTown(to) || from == to) {
      return NONE;
    }
    return debts.minutesLent(from, to);
  }

  public int owed(int town) throws NoSuchElementException {
    if (!told.hasTown(town)) {
      throw new NoSuchElementException("no such town");
    }
    return debts.owedBy(town);
  }

  public int payments() {
    return debts.fewestPayments();
  }

  // ---- floats and doubles, by bits

  public int share(int judge) {
    if (!told.hasJudge(judge)) {
      return NO_SHARE;
    }
    int all = calendar.sumOfLoads();
    if (all <= 0) {
      return FLOAT_NAN;
    }
    return Bits.ofFloat((float) calendar.loadOf(judge) / (float) all);
  }

  public long spread() {
    if (told.judges <= 0) {
      return DOUBLE_NAN;
    }
    double many = (double) told.judges;
    double mean = (double) calendar.sumOfLoads() / many;
    double sum = 0.0;
    for (int judge = 0; judge < told.judges; judge++) {
      double off = (double) calendar.loadOf(judge) - mean;
      sum = sum + off * off;
    }
    return Bits.ofDouble(sum / many);
  }

  public int waited() {
    int many = calendar.sittings();
    if (many <= 0) {
      return NONE;
    }
    float mean = (float) calendar.sumOfAges() / (float) many;
    return (int) (mean * 100f);
  }

  // ---- acts

  public int undo() {
    return acts.takeBack();
  }

  public boolean keep(int k, boolean back) {
    if (k < 0 || k >= KEEPS) {
      return false;
    }
    return back ? acts.backToKeep(k) : acts.layKeep(k);
  }

  public int count(int what) {
    switch (what) {
      case 0:
        return told.towns;
      case 1:
        return told.judges;
      case 2:
        return told.cases;
      case 3:
        return calendar.sittings();
      case 4:
        return acts.held;
      case 5:
        return taped;
      default:
        return NONE;
    }
  }

  private static boolean isDay(int day) {
    return day >= 0 && day <= LAST_DAY;
  }

  /** What a TEXT tells: towns, ways, judges, cases. */
  private static final class Courts {
    int towns;
    int judges;
    int cases;
    /** DAYS of the roads while the TEXT is read, of the shortest ways from findWays on. */
    private final int[] days = new int[MOST_TOWNS * MOST_TOWNS];
    final int[] home = new int[MOST_JUDGES];
    final int[] daily = new int[MOST_JUDGES];
    final int[] sorts = new int[MOST_JUDGES];
    final int[] quarrels = new int[MOST_JUDGES];
    final int[] townOf = new int[MOST_CASES];
    final int[] sortOf = new int[MOST_CASES];
    final int[] filed = new int[MOST_CASES];
    final int[] length = new int[MOST_CASES];
    final int[] barred = new int[MOST_CASES];

    Courts() {
      forget();
    }

    void forget() {
      towns = 0;
      judges = 0;
      cases = 0;
      for (int from = 0; from < MOST_TOWNS; from++) {
        for (int to = 0; to < MOST_TOWNS; to++) {
          days[from * MOST_TOWNS + to] = from == to ? 0 : NO_WAY;
        }
      }
    }

    boolean hasTown(int town) {
      return town >= 0 && town < towns;
    }

    boolean hasJudge(int judge) {
      return judge >= 0 && judge < judges;
    }

    boolean hasCase(int file) {
      return file >= 0 && file < cases;
    }

    int way(int from, int to) {
      return days[from * MOST_TOWNS + to];
    }

    void addTown() {
      if (towns < MOST_TOWNS) {
        towns++;
      }
    }

    void layRoad(int one, int other, int far) {
      days[one * MOST_TOWNS + other] = far;
      days[other * MOST_TOWNS + one] = far;
    }

    void addJudge(int itsHome, int itsMinutes, int itsSorts) {
      if (judges < MOST_JUDGES) {
        home[judges] = itsHome;
        daily[judges] = itsMinutes;
        sorts[judges] = itsSorts;
        quarrels[judges] = 0;
        judges++;
      }
    }

    void addQuarrel(int one, int other) {
      quarrels[one] |= 1 << other;
      quarrels[other] |= 1 << one;
    }

    void addCase(int itsTown, int itsSort, int itsDay, int itsMinutes, int itsBarred) {
      if (cases < MOST_CASES) {
        townOf[cases] = itsTown;
        sortOf[cases] = itsSort;
        filed[cases] = itsDay;
        length[cases] = itsMinutes;
        barred[cases] = itsBarred;
        cases++;
      }
    }

    /** Only when all roads are told: a road told again may be longer than it was. */
    void findWays() {
      for (int over = 0; over < towns; over++) {
        for (int from = 0; from < towns; from++) {
          for (int to = 0; to < towns; to++) {
            int detour = way(from, over) + way(over, to);
            days[from * MOST_TOWNS + to] = Math.min(way(from, to), detour);
          }
        }
      }
    }
  }

  /** Parts the bytes of THE TAPE into TOKENS; a WORD is held as its letters' bytes in a long. */
  private static final class Scanner {
    static final int END = 0;
    static final int WORD = 1;
    static final int NUMBER = 2;
    static final int STOP = 3;
    static final int NO_TOKEN = 4;
    private static final int LONGEST_WORD = 7;
    private static final int LONGEST_NUMBER = 3;

    private final byte[] bytes;
    private int end;
    private int next;
    int place;
    int kind;
    long word;
    int number;

    Scanner(byte[] bytes) {
      this.bytes = bytes;
      end = 0;
      kind = END;
    }

    void start(int n) {
      end = Math.min(n, bytes.length);
      next = 0;
      advance();
    }

    boolean isWord(long wanted) {
      return kind == WORD && word == wanted;
    }

    void advance() {
      while (next < end && (bytes[next] == 32 || bytes[next] == 10)) {
        next++;
      }
      place = next;
      if (next >= end) {
        kind = END;
        return;
      }
      int sign = bytes[next];
      if (sign >= 'a' && sign <= 'z') {
        takeWord();
      } else if (sign >= '0' && sign <= '9') {
        takeNumber();
      } else if (sign == ';') {
        kind = STOP;
        next++;
      } else {
        kind = NO_TOKEN;
      }
    }

    private void takeWord() {
      word = 0;
      while (next < end && bytes[next] >= 'a' && bytes[next] <= 'z') {
        word = (word << 8) | bytes[next];
        next++;
      }
      kind = next - place <= LONGEST_WORD ? WORD : NO_TOKEN;
    }

    private void takeNumber() {
      number = 0;
      while (next < end && bytes[next] >= '0' && bytes[next] <= '9') {
        number = number * 10 + (bytes[next] - '0');
        next++;
      }
      kind = next - place <= LONGEST_NUMBER ? NUMBER : NO_TOKEN;
    }
  }

  /** The NAMES that a TEXT has told so far, and of what they are. */
  private static final class Names {
    static final int TOWN = 0;
    static final int JUDGE = 1;
    static final int CASE = 2;

    private final long[] words = new long[MOST_NAMES];
    private final int[] kinds = new int[MOST_NAMES];
    private final int[] numbers = new int[MOST_NAMES];
    private int told;

    void forget() {
      told = 0;
    }

    void add(long word, int kind, int number) {
      if (told < MOST_NAMES) {
        words[told] = word;
        kinds[told] = kind;
        numbers[told] = number;
        told++;
      }
    }

    boolean has(long word) {
      return find(word) != NONE;
    }

    /** The number of the TOWN, JUDGE, CASE; NONE if the NAME is none of this kind. */
    int numberOf(long word, int kind) {
      int at = find(word);
      return at != NONE && kinds[at] == kind ? numbers[at] : NONE;
    }

    private int find(long word) {
      for (int at = 0; at < told; at++) {
        if (words[at] == word) {
          return at;
        }
      }
      return NONE;
    }
  }

  /**
   * Reads a TEXT from left to right and ends at the first FAULT, which so is the one whose place is
   * least; at each TOKEN the kinds are looked for in the order of the document's list.
   */
  private static final class Reader {
    private static final int UNFIT = 1;
    private static final int TWICE = 2;
    private static final int NOT_TOLD = 3;
    private static final int CANNOT_BE = 4;
    private static final int TOO_MANY = 5;

    // The words' letters as Scanner packs them.
    private static final long TOWN = 0x746f776eL;
    private static final long ROAD = 0x726f6164L;
    private static final long JUDGE = 0x6a75646765L;
    private static final long QUARREL = 0x7175617272656cL;
    private static final long CASE = 0x63617365L;
    private static final long BARS = 0x62617273L;
    private static final long CIVIL = 0x636976696cL;
    private static final long CRIME = 0x6372696d65L;
    private static final long FAMILY = 0x66616d696c79L;
    private static final long LAND = 0x6c616e64L;

    private final Scanner scanner;
    private final Names names;
    private Courts into;
    /** The answer that tells the FAULT at which readLine ended. */
    int fault;

    Reader(byte[] tape, Courts courts) {
      scanner = new Scanner(tape);
      names = new Names();
      into = courts;
      fault = 0;
    }

    void start(int n, Courts courts) {
      into = courts;
      names.forget();
      scanner.start(n);
    }

    boolean hasMore() {
      return scanner.kind != Scanner.END;
    }

    private boolean refuse(int kind) {
      fault = -2 - (8 * scanner.place + kind);
      return false;
    }

    private int refuseNumber(int kind) {
      refuse(kind);
      return NONE;
    }

    boolean readLine() {
      if (scanner.isWord(TOWN)) {
        return into.towns < MOST_TOWNS ? readTown() : refuse(TOO_MANY);
      }
      if (scanner.isWord(ROAD)) {
        return readRoad();
      }
      if (scanner.isWord(JUDGE)) {
        return into.judges < MOST_JUDGES ? readJudge() : refuse(TOO_MANY);
      }
      if (scanner.isWord(QUARREL)) {
        return readQuarrel();
      }
      if (scanner.isWord(CASE)) {
        return into.cases < MOST_CASES ? readCase() : refuse(TOO_MANY);
      }
      return refuse(UNFIT);
    }

    private boolean readTown() {
      scanner.advance();
      if (!newName(Names.TOWN, into.towns)) {
        return false;
      }
      into.addTown();
      return lineEnd();
    }

    private boolean readRoad() {
      scanner.advance();
      int one = toldName(Names.TOWN, 0);
      if (one < 0) {
        return false;
      }
      int other = toldName(Names.TOWN, 1 << one);
      if (other < 0) {
        return false;
      }
      int days = numberWithin(0, 9);
      if (days < 0) {
        return false;
      }
      into.layRoad(one, other, days);
      return lineEnd();
    }

    private boolean readJudge() {
      scanner.advance();
      if (!newName(Names.JUDGE, into.judges)) {
        return false;
      }
      int home = toldName(Names.TOWN, 0);
      if (home < 0) {
        return false;
      }
      int daily = numberWithin(60, 600);
      if (daily < 0) {
        return false;
      }
      int sorts = unlikeSorts();
      if (sorts < 0) {
        return false;
      }
      into.addJudge(home, daily, sorts);
      return lineEnd();
    }

    private boolean readQuarrel() {
      scanner.advance();
      int one = toldName(Names.JUDGE, 0);
      if (one < 0) {
        return false;
      }
      int other = toldName(Names.JUDGE, 1 << one);
      if (other < 0) {
        return false;
      }
      into.addQuarrel(one, other);
      return lineEnd();
    }

    private boolean readCase() {
      scanner.advance();
      if (!newName(Names.CASE, into.cases)) {
        return false;
      }
      int town = toldName(Names.TOWN, 0);
      if (town < 0) {
        return false;
      }
      int sort = unlikeSort(0);
      if (sort < 0) {
        return false;
      }
      int filed = numberWithin(0, LAST_DAY);
      if (filed < 0) {
        return false;
      }
      int length = numberWithin(10, 300);
      if (length < 0) {
        return false;
      }
      int barred = barredJudges();
      if (barred < 0) {
        return false;
      }
      into.addCase(town, sort, filed, length, barred);
      return lineEnd();
    }

    private boolean lineEnd() {
      if (scanner.kind != Scanner.STOP) {
        return refuse(UNFIT);
      }
      scanner.advance();
      return true;
    }

    private boolean newName(int kind, int number) {
      if (!atName()) {
        return refuse(UNFIT);
      }
      if (names.has(scanner.word)) {
        return refuse(TWICE);
      }
      names.add(scanner.word, kind, number);
      scanner.advance();
      return true;
    }

    /** The number of the TOWN or JUDGE named here, none of those in the bits; NONE: a FAULT. */
    private int toldName(int kind, int unlike) {
      if (!atName()) {
        return refuseNumber(UNFIT);
      }
      int number = names.numberOf(scanner.word, kind);
      if (number < 0) {
        return refuseNumber(NOT_TOLD);
      }
      if ((unlike >> number & 1) != 0) {
        return refuseNumber(TWICE);
      }
      scanner.advance();
      return number;
    }

    private int numberWithin(int least, int most) {
      if (scanner.kind != Scanner.NUMBER) {
        return refuseNumber(UNFIT);
      }
      int number = scanner.number;
      if (number < least || number > most) {
        return refuseNumber(CANNOT_BE);
      }
      scanner.advance();
      return number;
    }

    private int unlikeSorts() {
      int sorts = 0;
      for (int some = 0; some <= MOST_SORTS; some++) {
        int sort = unlikeSort(sorts);
        if (sort < 0) {
          return NONE;
        }
        sorts |= 1 << sort;
        if (scanner.kind != Scanner.WORD) {
          break;
        }
      }
      return sorts;
    }

    private int unlikeSort(int unlike) {
      int sort = sortHere();
      if (sort < 0) {
        return refuseNumber(UNFIT);
      }
      if ((unlike >> sort & 1) != 0) {
        return refuseNumber(TWICE);
      }
      scanner.advance();
      return sort;
    }

    private int barredJudges() {
      int barred = 0;
      for (int some = 0; some <= MOST_JUDGES && scanner.isWord(BARS); some++) {
        scanner.advance();
        int judge = toldName(Names.JUDGE, barred);
        if (judge < 0) {
          return NONE;
        }
        barred |= 1 << judge;
      }
      return barred;
    }

    private boolean atName() {
      if (scanner.kind != Scanner.WORD || sortHere() >= 0) {
        return false;
      }
      long word = scanner.word;
      return word != TOWN && word != ROAD && word != JUDGE && word != QUARREL && word != CASE
          && word != BARS;
    }

    private int sortHere() {
      if (scanner.kind != Scanner.WORD) {
        return NONE;
      }
      long word = scanner.word;
      if (word == CIVIL) {
        return 0;
      }
      if (word == CRIME) {
        return 1;
      }
      if (word == FAMILY) {
        return 2;
      }
      return word == LAND ? 3 : NONE;
    }
  }

  /** All SITTINGS, by CASE, and what follows from them. */
  private static final class Calendar {
    Courts courts;
    final int[] judgeOf = new int[MOST_CASES];
    final int[] dayOf = new int[MOST_CASES];
    /** What listOpen found last. */
    final int[] oldest = new int[MOST_CASES];

    Calendar(Courts courts) {
      startFor(courts);
    }

    void startFor(Courts told) {
      courts = told;
      for (int file = 0; file < MOST_CASES; file++) {
        remove(file);
      }
    }

    void place(int file, int judge, int day) {
      judgeOf[file] = judge;
      dayOf[file] = day;
    }

    void remove(int file) {
      place(file, NONE, NONE);
    }

    boolean hasSitting(int file) {
      return judgeOf[file] != NONE;
    }

    int whyNot(int file, int judge, int day) {
      int town = courts.townOf[file];
      if (hasSitting(file)) {
        return 7;
      }
      if (day < courts.filed[file]) {
        return 3;
      }
      if ((courts.sorts[judge] >> courts.sortOf[file] & 1) == 0) {
        return 1;
      }
      if ((courts.barred[file] >> judge & 1) != 0) {
        return 2;
      }
      if (isTooFar(judge, town, day)) {
        return 5;
      }
      if (meetsQuarrel(judge, town, day)) {
        return 6;
      }
      return minutesOn(judge, day) + courts.length[file] > courts.daily[judge] ? 4 : 0;
    }

    private boolean isTooFar(int judge, int town, int day) {
      for (int file = 0; file < courts.cases; file++) {
        int other = courts.townOf[file];
        if (judgeOf[file] == judge && other != town
            && Math.abs(dayOf[file] - day) < 1 + courts.way(other, town)) {
          return true;
        }
      }
      return false;
    }

    private boolean meetsQuarrel(int judge, int town, int day) {
      for (int file = 0; file < courts.cases; file++) {
        if (dayOf[file] == day && courts.townOf[file] == town
            && (courts.quarrels[judge] >> judgeOf[file] & 1) != 0) {
          return true;
        }
      }
      return false;
    }

    int townOn(int judge, int day) {
      for (int file = 0; file < courts.cases; file++) {
        if (judgeOf[file] == judge && dayOf[file] == day) {
          return courts.townOf[file];
        }
      }
      return NONE;
    }

    int minutesOn(int judge, int day) {
      int sum = 0;
      for (int file = 0; file < courts.cases; file++) {
        if (judgeOf[file] == judge && dayOf[file] == day) {
          sum += courts.length[file];
        }
      }
      return sum;
    }

    int loadOf(int judge) {
      int sum = 0;
      for (int file = 0; file < courts.cases; file++) {
        if (judgeOf[file] == judge) {
          sum += courts.length[file];
          if (courts.townOf[file] != courts.home[judge] && isFirstOfHisDay(file)) {
            sum += AWAY_MINUTES;
          }
        }
      }
      return sum;
    }

    /** He is in one TOWN on a DAY, so any one of that DAY's CASES can stand for the DAY. */
    private boolean isFirstOfHisDay(int file) {
      for (int former = 0; former < file; former++) {
        if (judgeOf[former] == judgeOf[file] && dayOf[former] == dayOf[file]) {
          return false;
        }
      }
      return true;
    }

    int sumOfLoads() {
      int sum = 0;
      for (int judge = 0; judge < courts.judges; judge++) {
        sum += loadOf(judge);
      }
      return sum;
    }

    int placeByLoad(int judge) {
      int own = loadOf(judge);
      int ahead = 0;
      for (int other = 0; other < courts.judges; other++) {
        int his = loadOf(other);
        if (his > own || (his == own && other < judge)) {
          ahead++;
        }
      }
      return ahead;
    }

    int sittings() {
      int many = 0;
      for (int file = 0; file < courts.cases; file++) {
        if (hasSitting(file)) {
          many++;
        }
      }
      return many;
    }

    int sumOfAges() {
      int sum = 0;
      for (int file = 0; file < courts.cases; file++) {
        if (hasSitting(file)) {
          sum += dayOf[file] - courts.filed[file];
        }
      }
      return sum;
    }

    /** Lays the CASES OPEN on the DAY into the row oldest: how many. */
    int listOpen(int day) {
      int found = 0;
      for (int file = 0; file < courts.cases; file++) {
        if (!hasSitting(file) && courts.filed[file] <= day) {
          int at = found;
          while (at > 0 && courts.filed[oldest[at - 1]] > courts.filed[file]) {
            oldest[at] = oldest[at - 1];
            at--;
          }
          oldest[at] = file;
          found++;
        }
      }
      return found;
    }

    int goThrough(int day) {
      int found = listOpen(day);
      int heard = 0;
      for (int at = 0; at < found; at++) {
        int judge = leastLoaded(oldest[at], day);
        if (judge != NONE) {
          place(oldest[at], judge, day);
          heard++;
        }
      }
      return heard;
    }

    private int leastLoaded(int file, int day) {
      int least = NONE;
      for (int judge = 0; judge < courts.judges; judge++) {
        if (whyNot(file, judge, day) == 0 && (least == NONE || isRather(judge, least, file))) {
          least = judge;
        }
      }
      return least;
    }

    private boolean isRather(int judge, int than, int file) {
      int load = loadOf(judge);
      int other = loadOf(than);
      if (load != other) {
        return load < other;
      }
      int town = courts.townOf[file];
      return courts.way(courts.home[judge], town) < courts.way(courts.home[than], town);
    }
  }

  /** LOADS of all JUDGES, the greatest first. */
  private static final class LoadOrder {
    private final int[] sorted = new int[MOST_JUDGES];
    private int many;

    void sort(int[] loads, int judges) {
      many = Math.min(judges, MOST_JUDGES);
      for (int judge = 0; judge < many; judge++) {
        int at = judge;
        while (at > 0 && sorted[at - 1] < loads[judge]) {
          sorted[at] = sorted[at - 1];
          at--;
        }
        sorted[at] = loads[judge];
      }
    }

    boolean isLessThan(LoadOrder other) {
      for (int at = 0; at < many; at++) {
        if (sorted[at] != other.sorted[at]) {
          return sorted[at] < other.sorted[at];
        }
      }
      return false;
    }

    int greatest() {
      return many > 0 ? sorted[0] : 0;
    }

    long sumOfSquares() {
      long sum = 0;
      for (int at = 0; at < many; at++) {
        sum += (long) sorted[at] * sorted[at];
      }
      return sum;
    }
  }

  /** Finds BEST by going through all ways in the order in which the first of like ones counts. */
  private static final class BestSearch {
    private final Calendar calendar;
    private final int[] loads = new int[MOST_JUDGES];
    private final int[] tried = new int[MOST_IN_BEST];
    private final LoadOrder now = new LoadOrder();
    private int day;
    int asked;
    int heard;
    final int[] chosen = new int[MOST_IN_BEST];
    final LoadOrder least = new LoadOrder();

    BestSearch(Calendar calendar) {
      this.calendar = calendar;
    }

    void find(int onDay, int n) {
      day = onDay;
      asked = Math.min(Math.min(n, MOST_IN_BEST), calendar.listOpen(day));
      heard = NONE;
      for (int judge = 0; judge < calendar.courts.judges; judge++) {
        loads[judge] = calendar.loadOf(judge);
      }
      tryCase(0, 0);
    }

    int placeAll() {
      for (int at = 0; at < asked; at++) {
        if (chosen[at] != NONE) {
          calendar.place(calendar.oldest[at], chosen[at], day);
        }
      }
      return heard;
    }

    private void tryCase(int at, int given) {
      if (!mayBeBetter(given + asked - at)) {
        return;
      }
      if (at >= asked) {
        remember(given);
        return;
      }
      tried[at] = NONE;
      tryCase(at + 1, given);
      for (int judge = 0; judge < calendar.courts.judges; judge++) {
        if (calendar.whyNot(calendar.oldest[at], judge, day) == 0) {
          tryJudge(at, given, judge);
        }
      }
    }

    private void tryJudge(int at, int given, int judge) {
      int file = calendar.oldest[at];
      int former = loads[judge];
      tried[at] = judge;
      calendar.place(file, judge, day);
      loads[judge] = calendar.loadOf(judge);
      tryCase(at + 1, given + 1);
      loads[judge] = former;
      calendar.remove(file);
    }

    /** LOADS only grow from here on, so a way that is no better already will not be. */
    private boolean mayBeBetter(int mostHeard) {
      if (mostHeard != heard) {
        return mostHeard > heard;
      }
      now.sort(loads, calendar.courts.judges);
      return now.isLessThan(least);
    }

    private void remember(int given) {
      heard = given;
      least.sort(loads, calendar.courts.judges);
      for (int at = 0; at < asked; at++) {
        chosen[at] = tried[at];
      }
    }
  }

  /** Finds the FAIRER giving away of one SITTING. */
  private static final class FairerSearch {
    private final Calendar calendar;
    private final int[] loads = new int[MOST_JUDGES];
    private final LoadOrder now = new LoadOrder();
    private final LoadOrder least = new LoadOrder();
    int file;
    int judge;

    FairerSearch(Calendar calendar) {
      this.calendar = calendar;
      file = NONE;
      judge = NONE;
    }

    void find() {
      file = NONE;
      judge = NONE;
      sortInto(least);
      for (int some = 0; some < calendar.courts.cases; some++) {
        if (calendar.hasSitting(some)) {
          tryOthers(some, calendar.judgeOf[some], calendar.dayOf[some]);
        }
      }
    }

    private void tryOthers(int some, int owner, int day) {
      calendar.remove(some);
      for (int other = 0; other < calendar.courts.judges; other++) {
        if (other != owner && calendar.whyNot(some, other, day) == 0) {
          calendar.place(some, other, day);
          compare(some, other);
          calendar.remove(some);
        }
      }
      calendar.place(some, owner, day);
    }

    private void compare(int some, int other) {
      sortInto(now);
      if (now.isLessThan(least)) {
        sortInto(least);
        file = some;
        judge = other;
      }
    }

    private void sortInto(LoadOrder order) {
      int judges = calendar.courts.judges;
      for (int each = 0; each < judges; each++) {
        loads[each] = calendar.loadOf(each);
      }
      order.sort(loads, judges);
    }
  }

  /** What TOWNS LENT each other. */
  private static final class Debts {
    private final Calendar calendar;
    private final int[] sums = new int[1 << MOST_TOWNS];
    private final int[] groups = new int[1 << MOST_TOWNS];

    Debts(Calendar calendar) {
      this.calendar = calendar;
    }

    int minutesLent(int from, int to) {
      Courts courts = calendar.courts;
      int sum = 0;
      for (int file = 0; file < courts.cases; file++) {
        if (calendar.hasSitting(file) && courts.townOf[file] == to
            && courts.home[calendar.judgeOf[file]] == from) {
          sum += courts.length[file];
        }
      }
      return sum;
    }

    int owedBy(int town) {
      int sum = 0;
      for (int other = 0; other < calendar.courts.towns; other++) {
        if (other != town) {
          sum += minutesLent(other, town) - minutesLent(town, other);
        }
      }
      return sum;
    }

    /**
     * TOWNS that are even among themselves need one payment less than they are, so the fewest come
     * of the most such groups into which all can be parted (an even TOWN is one by itself).
     */
    int fewestPayments() {
      int towns = calendar.courts.towns;
      int sets = 1 << towns;
      sums[0] = 0;
      groups[0] = 0;
      for (int town = 0; town < towns; town++) {
        sums[1 << town] = owedBy(town);
      }
      for (int set = 1; set < sets; set++) {
        sums[set] = sums[set & -set] + sums[set & (set - 1)];
        groups[set] = mostGroups(set, towns) + (sums[set] == 0 ? 1 : 0);
      }
      return towns - groups[sets - 1];
    }

    private int mostGroups(int set, int towns) {
      int most = 0;
      for (int town = 0; town < towns; town++) {
        if ((set >> town & 1) != 0) {
          most = Math.max(most, groups[set ^ (1 << town)]);
        }
      }
      return most;
    }
  }

  /** The SITTINGS as they were ahead of the last ACTS, and the KEEPS behind them in the same rows. */
  private static final class Acts {
    private final Calendar calendar;
    private final int[] judges = new int[(MOST_ACTS + KEEPS) * MOST_CASES];
    private final int[] days = new int[(MOST_ACTS + KEEPS) * MOST_CASES];
    private int kept;
    private int next;
    int held;

    Acts(Calendar calendar) {
      this.calendar = calendar;
    }

    void forgetAll() {
      held = 0;
      kept = 0;
    }

    void begin() {
      store(next);
      next = next < MOST_ACTS - 1 ? next + 1 : 0;
      held = Math.min(held + 1, MOST_ACTS);
    }

    int takeBack() {
      if (held <= 0) {
        return NONE;
      }
      next = next > 0 ? next - 1 : MOST_ACTS - 1;
      fetch(next);
      held--;
      return held;
    }

    boolean layKeep(int k) {
      store(MOST_ACTS + k);
      kept |= 1 << k;
      return true;
    }

    boolean backToKeep(int k) {
      if ((kept >> k & 1) == 0) {
        return false;
      }
      fetch(MOST_ACTS + k);
      held = 0;
      return true;
    }

    private void store(int slot) {
      System.arraycopy(calendar.judgeOf, 0, judges, slot * MOST_CASES, MOST_CASES);
      System.arraycopy(calendar.dayOf, 0, days, slot * MOST_CASES, MOST_CASES);
    }

    private void fetch(int slot) {
      System.arraycopy(judges, slot * MOST_CASES, calendar.judgeOf, 0, MOST_CASES);
      System.arraycopy(days, slot * MOST_CASES, calendar.dayOf, 0, MOST_CASES);
    }
  }

  /** The bits of floats and doubles, by steps none of which rounds. */
  private static final class Bits {
    private static final int FLOAT_BIAS = 127;
    private static final int DOUBLE_BIAS = 1023;

    private Bits() {
    }

    /** Of a share, so of 0 to 1. */
    static int ofFloat(float number) {
      if (!(number > 0f)) {
        return 0;
      }
      float part = number;
      int exponent = FLOAT_BIAS;
      while (part < 1f && exponent > 1) {
        part = part * 2f;
        exponent--;
      }
      return (exponent << 23) + (int) ((part - 1f) * 8388608f);
    }

    /** Of a spread, so of 0 or more. */
    static long ofDouble(double number) {
      if (!(number > 0.0)) {
        return 0L;
      }
      double part = number;
      int exponent = DOUBLE_BIAS;
      while (part < 1.0 && exponent > 1) {
        part = part * 2.0;
        exponent--;
      }
      while (part >= 2.0 && exponent < 2 * DOUBLE_BIAS) {
        part = part / 2.0;
        exponent++;
      }
      return ((long) exponent << 52) + (long) ((part - 1.0) * 4503599627370496.0);
    }
  }
}
