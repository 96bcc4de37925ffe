import java.nio.charset.StandardCharsets;
import java.util.ArrayList;
import java.util.Arrays;
import java.util.HashMap;
import java.util.HashSet;
import java.util.LinkedHashMap;
import java.util.List;
import java.util.Map;
import java.util.NoSuchElementException;
import java.util.Random;
import java.util.Set;
import java.util.function.LongSupplier;

/**
 * All promises at once: long runs of calls, the same every time, on the class and on a second telling
 * of the document below that tries every way and holds everything in lists and maps.
 */
public final class ModelTest {
  private static final int RUNS = 600;
  private static final long NO_SUCH = Long.MIN_VALUE + 7;

  public static void main(String[] args) {
    Map<String, Integer> seen = new HashMap<>();
    for (int run = 0; run < RUNS; run++) {
      new Run(run, seen).go();
    }
    Check.due("kinds of answers seen often enough", rare(seen), 0);
    Check.end();
  }

  /** A run that never meets a fault or a reason would show nothing of it. */
  private static int rare(Map<String, Integer> seen) {
    int rare = 0;
    for (String what : new String[] {"fault 1", "fault 2", "fault 3", "fault 4", "fault 5", "why 0",
        "why 1", "why 2", "why 3", "why 4", "why 5", "why 6", "why 7", "go 3", "best 5", "best 2",
        "take 3", "even 1", "even 2", "fairer 0", "payments 1", "payments 2", "payments 3",
        "payments 4", "undo 11"}) {
      if (seen.getOrDefault(what, 0) < 10) {
        System.out.println("seldom: " + what + ", " + seen.getOrDefault(what, 0));
        rare++;
      }
    }
    return rare;
  }

  private static final class Run {
    final int run;
    final Random random;
    final Map<String, Integer> seen;
    final SisterCourts x = new SisterCourts();
    final Model m = new Model();

    Run(int run, Map<String, Integer> seen) {
      this.run = run;
      this.random = new Random(run);
      this.seen = seen;
    }

    void go() {
      feedText(new Texts(random).text());
      while (m.calls < 512) {
        if (random.nextInt(150) == 0) {
          String text = new Texts(random).text();
          feedText(random.nextInt(4) == 0 ? text : Texts.spoilt(text, random));
        }
        step();
      }
    }

    void feedText(String text) {
      byte[] bytes = text.getBytes(StandardCharsets.ISO_8859_1);
      for (int from = 0; from < bytes.length; from += 20) {
        int[] f = new int[5];
        for (int i = 0; i < 5; i++) {
          f[i] = Check.four(bytes, from + 4 * i);
        }
        ask("feed", () -> x.feed(f[0], f[1], f[2], f[3], f[4]), () -> m.feed(f));
      }
      int n = random.nextInt(30) == 0 ? random.nextInt(830) - 10 : bytes.length;
      long got = ask("courts of '" + text + "'", () -> x.courts(n), () -> m.courts(n));
      note(got < -2 ? "fault " + ((-2 - got) & 7) : "lines");
    }

    void note(String what) {
      seen.merge(what, 1, Integer::sum);
    }

    int some(int below) {
      return random.nextInt(25) == 0 ? random.nextInt(below + 6) - 3 : random.nextInt(Math.max(1, below));
    }

    int day() {
      return random.nextInt(20) == 0 ? random.nextInt(66) - 3 : random.nextInt(14);
    }

    void step() {
      int j = some(m.judges.size());
      int c = some(m.cases.size());
      int t = some(m.towns.size());
      int u = some(m.towns.size());
      int d = day();
      int n = some(6);
      int w = some(3);
      switch (random.nextInt(34)) {
        case 0 -> ask("travel", () -> x.travel(t, u), () -> m.travelAnswer(t, u));
        case 1 -> {
          int what = some(4);
          ask("judge", () -> x.judge(j, what), () -> m.judge(j, what));
        }
        case 2 -> {
          int what = some(7);
          ask("file", () -> x.file(c, what), () -> m.file(c, what));
        }
        case 3, 4, 5, 6 -> note("why " + ask("why(" + c + ", " + j + ", " + d + ")",
            () -> x.why(c, j, d), () -> m.why(c, j, d)));
        case 7, 8, 9, 10, 11 -> ask("set", () -> x.set(c, j, d) ? 1 : 0, () -> m.set(c, j, d));
        case 12, 13 -> ask("clear", () -> x.clear(c), () -> m.clear(c));
        case 14 -> ask("sits", () -> x.sits(j, d), () -> m.sits(j, d));
        case 15 -> ask("minutes", () -> x.minutes(j, d), () -> m.minutes(j, d));
        case 16 -> {
          int k = some(10) - 1;
          ask("open", () -> x.open(d, k), () -> m.open(d, k));
        }
        case 17 -> {
          int to = d + random.nextInt(5) - 1;
          note("go " + ask("go", () -> x.go(d, to), () -> m.go(d, to)));
        }
        case 18, 19 -> {
          long got = ask("best(" + d + ", " + n + ", " + w + ")", () -> x.best(d, n, w),
              () -> m.best(d, n, w));
          note(w == 0 ? "best " + got : "best of loads");
        }
        case 20 -> ask("bestOf", () -> x.bestOf(d, n, w), () -> m.bestOf(d, n, w));
        case 21 -> note("take " + ask("take", () -> x.take(d, n), () -> m.take(d, n)));
        case 22 -> ask("load", () -> x.load(j), () -> m.load(j));
        case 23 -> ask("ranked", () -> x.ranked(j), () -> m.ranked(j));
        case 24 -> note("fairer " + ask("fairer", () -> x.fairer(w), () -> m.fairer(w)));
        case 25 -> {
          int most = random.nextInt(3) == 0 ? random.nextInt(60) - 4 : random.nextInt(3) + 1;
          note("even " + ask("even", () -> x.even(most), () -> m.even(most)));
        }
        case 26 -> ask("lent", () -> x.lent(t, u), () -> m.lent(t, u));
        case 27 -> ask("owed", () -> x.owed(t), () -> m.owed(t));
        case 28 -> note("payments " + ask("payments", () -> x.payments(), () -> m.payments()));
        case 29 -> ask("share", () -> x.share(j), () -> m.share(j));
        case 30 -> ask("spread", () -> x.spread(), () -> m.spread());
        case 31 -> ask("waited", () -> x.waited(), () -> m.waited());
        case 32 -> {
          if (random.nextInt(3) > 0) {
            note("undo " + ask("undo", () -> x.undo(), () -> m.undo()));
          }
        }
        default -> {
          int k = some(2);
          boolean back = random.nextInt(4) == 0;
          if (random.nextInt(3) == 0) {
            ask("keep", () -> x.keep(k, back) ? 1 : 0, () -> m.keep(k, back));
          }
          int what = some(6);
          ask("count", () -> x.count(what), () -> m.count(what));
        }
      }
    }

    long ask(String call, LongSupplier got, LongSupplier due) {
      m.calls++;
      long answer = answer(got);
      Check.due("run " + run + ", call " + m.calls + ": " + call, answer, answer(due));
      return answer;
    }

    static long answer(LongSupplier call) {
      try {
        return call.getAsLong();
      } catch (NoSuchElementException e) {
        return NO_SUCH;
      }
    }
  }

  /** Makes texts, good and spoilt. */
  private static final class Texts {
    static final String[] SORTS = {"civil", "crime", "family", "land"};
    final Random random;
    final StringBuilder text = new StringBuilder();

    Texts(Random random) {
      this.random = random;
    }

    String text() {
      int towns = random.nextInt(10) == 0 ? random.nextInt(6) : 2 + random.nextInt(4);
      int judges = towns == 0 ? 0 : random.nextInt(10) == 0 ? random.nextInt(7) : 2 + random.nextInt(5);
      int cases = towns == 0 ? 0 : random.nextInt(10) == 0 ? random.nextInt(13) : 6 + random.nextInt(7);
      for (int i = 0; i < towns; i++) {
        line("town t" + letter(i));
      }
      int roads = towns < 2 ? 0 : random.nextInt(2 * towns);
      for (int i = 0; i < roads; i++) {
        int a = random.nextInt(towns);
        int b = (a + 1 + random.nextInt(towns - 1)) % towns;
        line("road t" + letter(a) + " t" + letter(b) + " " + random.nextInt(random.nextBoolean() ? 2 : 10));
      }
      for (int i = 0; i < judges; i++) {
        line("judge j" + letter(i) + " t" + letter(random.nextInt(towns)) + " "
            + (60 + random.nextInt(random.nextBoolean() ? 541 : 100)) + sorts());
      }
      int quarrels = judges < 2 ? 0 : random.nextInt(judges);
      for (int i = 0; i < quarrels; i++) {
        int a = random.nextInt(judges);
        line("quarrel j" + letter(a) + " j" + letter((a + 1 + random.nextInt(judges - 1)) % judges));
      }
      boolean even = random.nextBoolean();
      for (int i = 0; i < cases; i++) {
        int length = even ? 20 * (1 + random.nextInt(4)) : 10 + random.nextInt(291);
        line("case c" + letter(i) + " t" + letter(random.nextInt(towns)) + " "
            + SORTS[random.nextInt(random.nextInt(3) + 1)] + " "
            + random.nextInt(random.nextInt(30) == 0 ? 61 : 8) + " " + length + bars(judges));
      }
      return text.length() <= 800 ? text.toString() : text.substring(0, text.lastIndexOf(";", 799) + 1);
    }

    String sorts() {
      StringBuilder sorts = new StringBuilder(random.nextInt(3) > 0 ? " civil" : " land");
      for (int i = 1; i < 3; i++) {
        if (random.nextInt(3) > 0) {
          sorts.append(' ').append(SORTS[i]);
        }
      }
      return sorts.toString();
    }

    String bars(int judges) {
      StringBuilder bars = new StringBuilder();
      for (int i = 0; i < judges; i++) {
        if (random.nextInt(12) == 0) {
          bars.append(" bars j").append(letter(i));
        }
      }
      return bars.toString();
    }

    void line(String line) {
      text.append(line).append(random.nextInt(20) == 0 ? " ; \n" : ";");
    }

    static char letter(int i) {
      return (char) ('a' + i);
    }

    static String spoilt(String text, Random random) {
      String[] parts = {";", " ", "\n", "town ", "town x;", "ta", "tb", "ja", "jb", "ca", "zz", " 7 ",
          "61", "0", "1000", "601 ", "civil ", "land", " bars ja", "bars jb ", "quarrel ", "A", "\0",
          "abcdefgh", "road ", "case ", "judge "};
      StringBuilder s = new StringBuilder(text);
      int from = random.nextInt(s.length() + 1);
      int to = random.nextInt(3) == 0 ? from : Math.min(s.length(), from + random.nextInt(9));
      String part = random.nextInt(4) == 0 ? "" : parts[random.nextInt(parts.length)];
      if (random.nextInt(4) == 0) {
        String[] more = {"town xa;", "judge xb ta 60 land;", "case xc ta land 1 10;"};
        int line = text.lastIndexOf(';', from) + 1;
        return cut(s.insert(line, more[random.nextInt(3)]).toString());
      }
      if (random.nextInt(3) == 0) {
        String[] words = text.split("(?<=[; \n])|(?=[; \n])");
        part = words[random.nextInt(words.length)];
        int at = random.nextInt(words.length);
        words[at] = part;
        return cut(String.join("", words));
      }
      return cut(s.replace(from, to, part).toString());
    }

    static String cut(String text) {
      return text.length() <= 800 ? text : text.substring(0, 800);
    }
  }

  /** A FAULT, on its way out of the text. */
  private static final class Fault extends RuntimeException {
    private static final long serialVersionUID = 1L;
    final int answer;

    Fault(int place, int kind) {
      answer = -2 - (8 * place + kind);
    }
  }

  private record Sitting(int judge, int day) {
  }

  private record Token(String text, int place) {
    boolean isWord() {
      return !text.isEmpty() && Character.isLetter(text.charAt(0)) && text.length() <= 7;
    }

    boolean isNumber() {
      return !text.isEmpty() && Character.isDigit(text.charAt(0)) && text.length() <= 3;
    }
  }

  private static final class Judge {
    int home;
    int daily;
    Set<Integer> sorts = new HashSet<>();
    Set<Integer> quarrels = new HashSet<>();
  }

  private static final class Case {
    int town;
    int sort;
    int filed;
    int length;
    Set<Integer> barred = new HashSet<>();
  }

  /** The text, told a second time. */
  private static final class Parsed {
    static final List<String> SORTS = List.of("civil", "crime", "family", "land");
    static final Set<String> KEPT = Set.of("town", "road", "judge", "quarrel", "case", "bars", "civil",
        "crime", "family", "land");
    final List<Token> tokens = new ArrayList<>();
    final List<String> towns = new ArrayList<>();
    final Map<String, Integer> roads = new HashMap<>();
    final Map<String, Judge> judges = new LinkedHashMap<>();
    final Map<String, Case> cases = new LinkedHashMap<>();
    int at;
    int lines;

    Parsed(String text) {
      int i = 0;
      while (i < text.length()) {
        char c = text.charAt(i);
        int j = i + 1;
        if (c >= 'a' && c <= 'z') {
          while (j < text.length() && text.charAt(j) >= 'a' && text.charAt(j) <= 'z') {
            j++;
          }
        } else if (c >= '0' && c <= '9') {
          while (j < text.length() && text.charAt(j) >= '0' && text.charAt(j) <= '9') {
            j++;
          }
        }
        if (c != ' ' && c != '\n') {
          tokens.add(new Token(c >= 'a' && c <= 'z' || c >= '0' && c <= '9' || c == ';'
              ? text.substring(i, j) : "?", i));
        }
        i = j;
      }
      tokens.add(new Token("", text.length()));
      while (at < tokens.size() - 1) {
        line();
        lines++;
      }
    }

    Token peek() {
      return tokens.get(at);
    }

    void must(boolean holds, int kind) {
      if (!holds) {
        throw new Fault(peek().place, kind);
      }
    }

    void line() {
      switch (peek().text) {
        case "town" -> {
          must(towns.size() < 5, 5);
          at++;
          towns.add(fresh());
        }
        case "road" -> {
          at++;
          int a = towns.indexOf(one(towns, List.of()));
          int b = towns.indexOf(one(towns, List.of(towns.get(a))));
          roads.put(Math.min(a, b) + " " + Math.max(a, b), number(0, 9));
        }
        case "judge" -> {
          must(judges.size() < 6, 5);
          at++;
          Judge judge = new Judge();
          String name = fresh();
          judge.home = towns.indexOf(one(towns, List.of()));
          judge.daily = number(60, 600);
          do {
            judge.sorts.add(sort(judge.sorts));
          } while (!peek().text.equals(";"));
          judges.put(name, judge);
        }
        case "quarrel" -> {
          at++;
          List<String> names = new ArrayList<>(judges.keySet());
          String a = one(names, List.of());
          String b = one(names, List.of(a));
          judges.get(a).quarrels.add(names.indexOf(b));
          judges.get(b).quarrels.add(names.indexOf(a));
        }
        case "case" -> {
          must(cases.size() < 12, 5);
          at++;
          Case c = new Case();
          String name = fresh();
          c.town = towns.indexOf(one(towns, List.of()));
          c.sort = sort(Set.of());
          c.filed = number(0, 60);
          c.length = number(10, 300);
          List<String> names = new ArrayList<>(judges.keySet());
          List<String> barred = new ArrayList<>();
          while (peek().text.equals("bars")) {
            at++;
            barred.add(one(names, barred));
          }
          for (String judge : barred) {
            c.barred.add(names.indexOf(judge));
          }
          cases.put(name, c);
        }
        default -> must(false, 1);
      }
      must(peek().text.equals(";"), 1);
      at++;
    }

    String name() {
      must(peek().isWord() && !KEPT.contains(peek().text), 1);
      return peek().text;
    }

    String fresh() {
      String name = name();
      must(!towns.contains(name) && !judges.containsKey(name) && !cases.containsKey(name), 2);
      at++;
      return name;
    }

    String one(List<String> of, List<String> unlike) {
      String name = name();
      must(!unlike.contains(name), 2);
      must(of.contains(name), 3);
      at++;
      return name;
    }

    int number(int least, int most) {
      must(peek().isNumber(), 1);
      int number = Integer.parseInt(peek().text);
      must(number >= least && number <= most, 4);
      at++;
      return number;
    }

    int sort(Set<Integer> unlike) {
      int sort = SORTS.indexOf(peek().text);
      must(sort >= 0, 1);
      must(!unlike.contains(sort), 2);
      at++;
      return sort;
    }
  }

  /** The document, told a second time. */
  private static final class Model {
    int calls = 0;
    StringBuilder tape = new StringBuilder();
    List<String> towns = List.of();
    List<Judge> judges = List.of();
    List<Case> cases = List.of();
    Map<String, Integer> roads = Map.of();
    Map<Integer, Sitting> sittings = new HashMap<>();
    List<Map<Integer, Sitting>> past = new ArrayList<>();
    Map<Integer, Map<Integer, Sitting>> kept = new HashMap<>();

    long feed(int[] numbers) {
      if (tape.length() + 20 > 800) {
        return -1;
      }
      for (int number : numbers) {
        for (int i = 3; i >= 0; i--) {
          tape.append((char) (number >>> 8 * i & 255));
        }
      }
      return tape.length();
    }

    long courts(int n) {
      if (n < 0 || n > tape.length()) {
        return -1;
      }
      String text = tape.substring(0, n);
      tape.setLength(0);
      Parsed parsed;
      try {
        parsed = new Parsed(text);
      } catch (Fault fault) {
        return fault.answer;
      }
      towns = parsed.towns;
      judges = new ArrayList<>(parsed.judges.values());
      cases = new ArrayList<>(parsed.cases.values());
      roads = parsed.roads;
      sittings.clear();
      past.clear();
      kept.clear();
      return parsed.lines;
    }

    /** By walking every way that goes through no town twice; -2: none. */
    int travel(int from, int to, Set<Integer> been) {
      if (from == to) {
        return 0;
      }
      int least = -2;
      for (int next = 0; next < towns.size(); next++) {
        Integer road = roads.get(Math.min(from, next) + " " + Math.max(from, next));
        if (road != null && !been.contains(next)) {
          Set<Integer> more = new HashSet<>(been);
          more.add(next);
          int rest = travel(next, to, more);
          if (rest >= 0 && (least < 0 || road + rest < least)) {
            least = road + rest;
          }
        }
      }
      return least;
    }

    int travel(int from, int to) {
      return travel(from, to, Set.of(from));
    }

    boolean town(int t) {
      return t >= 0 && t < towns.size();
    }

    boolean isJudge(int j) {
      return j >= 0 && j < judges.size();
    }

    boolean isCase(int c) {
      return c >= 0 && c < cases.size();
    }

    boolean day(int d) {
      return d >= 0 && d <= 60;
    }

    long travelAnswer(int from, int to) {
      return town(from) && town(to) ? travel(from, to) : -1;
    }

    static long bits(Set<Integer> set) {
      long bits = 0;
      for (int i : set) {
        bits |= 1L << i;
      }
      return bits;
    }

    long judge(int j, int what) {
      if (!isJudge(j) || what < 0 || what > 3) {
        throw new NoSuchElementException();
      }
      Judge judge = judges.get(j);
      return List.of((long) judge.home, (long) judge.daily, bits(judge.sorts), bits(judge.quarrels)).get(what);
    }

    long file(int c, int what) {
      if (!isCase(c) || what < 0 || what > 6) {
        throw new NoSuchElementException();
      }
      Case k = cases.get(c);
      Sitting s = sittings.getOrDefault(c, new Sitting(-1, -1));
      return List.of((long) k.town, (long) k.sort, (long) k.filed, (long) k.length, bits(k.barred),
          (long) s.judge, (long) s.day).get(what);
    }

    int why(int c, int j, int d) {
      if (!isCase(c) || !isJudge(j) || !day(d)) {
        return -1;
      }
      Case k = cases.get(c);
      Judge judge = judges.get(j);
      if (sittings.containsKey(c)) {
        return 7;
      }
      if (d < k.filed) {
        return 3;
      }
      if (!judge.sorts.contains(k.sort)) {
        return 1;
      }
      if (k.barred.contains(j)) {
        return 2;
      }
      boolean quarrel = false;
      int sum = k.length;
      for (Map.Entry<Integer, Sitting> e : sittings.entrySet()) {
        int town = cases.get(e.getKey()).town;
        Sitting s = e.getValue();
        if (s.judge == j && town != k.town) {
          int travel = travel(town, k.town);
          if (s.day == d || travel < 0 || Math.abs(s.day - d) < 1 + travel) {
            return 5;
          }
        }
        quarrel |= s.day == d && town == k.town && judge.quarrels.contains(s.judge);
        if (s.judge == j && s.day == d) {
          sum += cases.get(e.getKey()).length;
        }
      }
      return quarrel ? 6 : sum > judge.daily ? 4 : 0;
    }

    void act() {
      past.add(new HashMap<>(sittings));
      if (past.size() > 12) {
        past.remove(0);
      }
    }

    long set(int c, int j, int d) {
      if (why(c, j, d) != 0) {
        return 0;
      }
      act();
      sittings.put(c, new Sitting(j, d));
      return 1;
    }

    long clear(int c) {
      if (!sittings.containsKey(c)) {
        return -1;
      }
      act();
      return sittings.remove(c).day;
    }

    long sits(int j, int d) {
      if (!isJudge(j) || !day(d)) {
        return -2;
      }
      for (Map.Entry<Integer, Sitting> e : sittings.entrySet()) {
        if (e.getValue().equals(new Sitting(j, d))) {
          return cases.get(e.getKey()).town;
        }
      }
      return -1;
    }

    long minutes(int j, int d) {
      if (!isJudge(j) || !day(d)) {
        return -1;
      }
      return sittings.entrySet().stream().filter(e -> e.getValue().equals(new Sitting(j, d)))
          .mapToInt(e -> cases.get(e.getKey()).length).sum();
    }

    List<Integer> opens(int d) {
      List<Integer> list = new ArrayList<>();
      for (int c = 0; c < cases.size(); c++) {
        if (!sittings.containsKey(c) && cases.get(c).filed <= d) {
          list.add(c);
        }
      }
      list.sort((a, b) -> cases.get(a).filed - cases.get(b).filed);
      return list;
    }

    long open(int d, int k) {
      if (!day(d)) {
        return -2;
      }
      List<Integer> list = opens(d);
      return k == -1 ? list.size() : k >= 0 && k < list.size() ? list.get(k) : -2;
    }

    long load(int j) {
      if (!isJudge(j)) {
        return -1;
      }
      int sum = 0;
      Set<Integer> away = new HashSet<>();
      for (Map.Entry<Integer, Sitting> e : sittings.entrySet()) {
        if (e.getValue().judge == j) {
          sum += cases.get(e.getKey()).length;
          if (cases.get(e.getKey()).town != judges.get(j).home) {
            away.add(e.getValue().day);
          }
        }
      }
      return sum + 60 * away.size();
    }

    /** The greatest first: each is held below 0, so that an ordinary sort lays them so. */
    long[] downward() {
      long[] loads = new long[judges.size()];
      for (int j = 0; j < loads.length; j++) {
        loads[j] = -load(j);
      }
      Arrays.sort(loads);
      for (int j = 0; j < loads.length; j++) {
        loads[j] = -loads[j];
      }
      return loads;
    }

    long go(int from, int to) {
      if (!day(from) || !day(to) || from > to) {
        return -1;
      }
      act();
      int set = 0;
      for (int d = from; d <= to; d++) {
        for (int c : opens(d)) {
          List<Integer> may = new ArrayList<>();
          for (int j = 0; j < judges.size(); j++) {
            if (why(c, j, d) == 0) {
              may.add(j);
            }
          }
          may.sort((a, b) -> load(a) != load(b) ? Long.compare(load(a), load(b)) : far(a, c) - far(b, c));
          if (!may.isEmpty()) {
            sittings.put(c, new Sitting(may.get(0), d));
            set++;
          }
        }
      }
      return set;
    }

    int far(int j, int c) {
      int travel = travel(judges.get(j).home, cases.get(c).town);
      return travel < 0 ? 9999 : travel;
    }

    record Way(List<Integer> judges, int heard, long[] loads) {
    }

    /** Every way is set by itself, from nothing, and compared with the best ahead of it. */
    Way bestWay(int d, int n) {
      List<Integer> list = opens(d);
      list = list.subList(0, Math.min(n, list.size()));
      int ways = 1;
      for (int i = 0; i < list.size(); i++) {
        ways *= judges.size() + 1;
      }
      Way best = null;
      Map<Integer, Sitting> before = new HashMap<>(sittings);
      for (int code = 0; code < ways; code++) {
        Way way = tryWay(code, ways, list, d);
        sittings = new HashMap<>(before);
        if (way != null && (best == null || way.heard > best.heard
            || way.heard == best.heard && Arrays.compare(way.loads, best.loads) < 0)) {
          best = way;
        }
      }
      return best;
    }

    Way tryWay(int code, int ways, List<Integer> list, int d) {
      List<Integer> who = new ArrayList<>();
      int heard = 0;
      int left = code;
      int unit = ways;
      for (int c : list) {
        unit /= judges.size() + 1;
        int j = left / unit - 1;
        left %= unit;
        who.add(j);
        if (j >= 0) {
          if (why(c, j, d) != 0) {
            return null;
          }
          sittings.put(c, new Sitting(j, d));
          heard++;
        }
      }
      return new Way(who, heard, downward());
    }

    long best(int d, int n, int what) {
      if (!day(d) || n < 0 || n > 5 || what < 0 || what > 2) {
        return -1;
      }
      Way way = bestWay(d, n);
      return what == 0 ? way.heard : what == 1 ? (way.loads.length == 0 ? 0 : way.loads[0])
          : Arrays.stream(way.loads).map(l -> l * l).sum();
    }

    long bestOf(int d, int n, int i) {
      if (!day(d) || n < 0 || n > 5) {
        return -2;
      }
      Way way = bestWay(d, n);
      return i >= 0 && i < way.judges.size() ? way.judges.get(i) : -2;
    }

    long take(int d, int n) {
      if (!day(d) || n < 0 || n > 5) {
        return -1;
      }
      Way way = bestWay(d, n);
      List<Integer> list = opens(d);
      act();
      for (int i = 0; i < way.judges.size(); i++) {
        if (way.judges.get(i) >= 0) {
          sittings.put(list.get(i), new Sitting(way.judges.get(i), d));
        }
      }
      return way.heard;
    }

    long ranked(int k) {
      List<Integer> list = new ArrayList<>();
      for (int j = 0; j < judges.size(); j++) {
        list.add(j);
      }
      list.sort((a, b) -> Long.compare(load(b), load(a)));
      return k >= 0 && k < list.size() ? list.get(k) : -1;
    }

    int[] fairest() {
      long[] ahead = downward();
      long[] least = ahead;
      int[] found = {-1, -1};
      for (int c = 0; c < cases.size(); c++) {
        Sitting had = sittings.remove(c);
        if (had == null) {
          continue;
        }
        for (int j = 0; j < judges.size(); j++) {
          if (j != had.judge && why(c, j, had.day) == 0) {
            sittings.put(c, new Sitting(j, had.day));
            long[] then = downward();
            if (Arrays.compare(then, ahead) < 0 && Arrays.compare(then, least) < 0) {
              least = then;
              found = new int[] {c, j};
            }
            sittings.remove(c);
          }
        }
        sittings.put(c, had);
      }
      return found;
    }

    long fairer(int what) {
      return what == 0 || what == 1 ? fairest()[what] : -1;
    }

    long even(int n) {
      if (n < 1 || n > 50) {
        return -1;
      }
      act();
      for (int done = 0; done < n; done++) {
        int[] found = fairest();
        if (found[0] < 0) {
          return done;
        }
        sittings.put(found[0], new Sitting(found[1], sittings.get(found[0]).day));
      }
      return n;
    }

    long lent(int from, int to) {
      if (!town(from) || !town(to) || from == to) {
        return -1;
      }
      long sum = 0;
      for (Map.Entry<Integer, Sitting> e : sittings.entrySet()) {
        Case c = cases.get(e.getKey());
        sum += c.town == to && judges.get(e.getValue().judge).home == from ? c.length : 0;
      }
      return sum;
    }

    long owed(int town) {
      if (!town(town)) {
        throw new NoSuchElementException();
      }
      long sum = 0;
      for (Map.Entry<Integer, Sitting> e : sittings.entrySet()) {
        Case c = cases.get(e.getKey());
        sum += c.town == town ? c.length : 0;
        sum -= judges.get(e.getValue().judge).home == town ? c.length : 0;
      }
      return sum;
    }

    long payments() {
      long[] owed = new long[towns.size()];
      for (int t = 0; t < owed.length; t++) {
        owed[t] = owed(t);
      }
      return settle(owed, 0);
    }

    /** The first town that isn't even settles all it has with some other one, in every way. */
    long settle(long[] owed, int from) {
      int first = from;
      while (first < owed.length && owed[first] == 0) {
        first++;
      }
      if (first == owed.length) {
        return 0;
      }
      long fewest = 99;
      for (int other = first + 1; other < owed.length; other++) {
        if (owed[other] != 0) {
          long[] then = owed.clone();
          then[other] += then[first];
          then[first] = 0;
          fewest = Math.min(fewest, 1 + settle(then, first));
        }
      }
      return fewest;
    }

    long share(int j) {
      if (!isJudge(j)) {
        return Integer.MIN_VALUE;
      }
      long all = Arrays.stream(downward()).sum();
      return Float.floatToIntBits(all == 0 ? Float.NaN : (float) load(j) / (float) all);
    }

    long spread() {
      int many = judges.size();
      double m = (double) Arrays.stream(downward()).sum() / (double) many;
      double sum = 0;
      for (int j = 0; j < many; j++) {
        sum += (load(j) - m) * (load(j) - m);
      }
      return Double.doubleToLongBits(many == 0 ? Double.NaN : sum / (double) many);
    }

    long waited() {
      int sum = 0;
      for (Map.Entry<Integer, Sitting> e : sittings.entrySet()) {
        sum += e.getValue().day - cases.get(e.getKey()).filed;
      }
      float mean = (float) sum / (float) sittings.size();
      return sittings.isEmpty() ? -1 : (int) (mean * 100f);
    }

    long undo() {
      if (past.isEmpty()) {
        return -1;
      }
      sittings = past.remove(past.size() - 1);
      return past.size();
    }

    long keep(int k, boolean back) {
      if (k < 0 || k > 1 || back && !kept.containsKey(k)) {
        return 0;
      }
      if (back) {
        sittings = new HashMap<>(kept.get(k));
        past.clear();
      } else {
        kept.put(k, new HashMap<>(sittings));
      }
      return 1;
    }

    long count(int what) {
      return switch (what) {
        case 0 -> towns.size();
        case 1 -> judges.size();
        case 2 -> cases.size();
        case 3 -> sittings.size();
        case 4 -> past.size();
        case 5 -> tape.length();
        default -> -1;
      };
    }
  }
}
