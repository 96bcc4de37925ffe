import java.io.IOException;
import java.nio.charset.StandardCharsets;
import java.nio.file.Files;
import java.nio.file.Path;
import java.util.NoSuchElementException;

/** What the project's tests share: answers that are due, texts put on the tape, words of the document. */
final class Check {
  /** A call whose answer counts as a long (a boolean counts 1 or 0). */
  interface Call {
    long answer();
  }

  private static final Path DOCUMENT = Path.of("../shared/DOC.md");

  private static int asked = 0;
  private static int wrong = 0;
  private static String document = "";
  private static String sentence = "";
  private static int askedBeforeSentence = -1;

  private Check() {
  }

  /**
   * What follows tests these words of the document: of a promise, or (0) of what stands ahead of the
   * promises. Words that the document does not say there, or that nothing tests, are a failure.
   */
  static void sentence(int promise, String words) {
    endSentence();
    sentence = "[" + promise + ": " + words + "] ";
    if (!part(promise).contains(plain(words))) {
      wrong++;
      System.out.println(sentence + "is not what the document says there");
    }
    askedBeforeSentence = asked;
  }

  private static void endSentence() {
    if (asked == askedBeforeSentence) {
      wrong++;
      System.out.println(sentence + "is tested by nothing");
    }
  }

  private static String part(int promise) {
    if (document.isEmpty()) {
      try {
        document = plain(Files.readString(DOCUMENT));
      } catch (IOException e) {
        throw new IllegalStateException("no document at " + DOCUMENT, e);
      }
    }
    int from = promise == 0 ? 0 : document.indexOf("## Promise " + promise + ":");
    int to = from < 0 ? -1 : document.indexOf(promise == 0 ? "## Promise 1:" : "## ", from + 3);
    return to < 0 ? "" : document.substring(from, to);
  }

  private static String plain(String words) {
    return words.replaceAll("\\s+", " ").trim();
  }

  static void due(String call, long got, long want) {
    asked++;
    if (got != want) {
      wrong++;
      System.out.println(sentence + call + " answered " + got + ", due is " + want);
    }
  }

  static void due(String call, boolean got, boolean want) {
    due(call, got ? 1L : 0L, want ? 1L : 0L);
  }

  static void due(String call, String got, String want) {
    asked++;
    if (!got.equals(want)) {
      wrong++;
      System.out.println(sentence + call + " answered\n" + got + "\n, due is\n" + want);
    }
  }

  static void dueNoSuch(String call, Call made) {
    asked++;
    try {
      long got = made.answer();
      wrong++;
      System.out.println(sentence + call + " answered " + got + ", due is a NoSuchElementException");
    } catch (NoSuchElementException e) {
      // as due
    }
  }

  /** Puts the text on the tape, zeros behind it up to a whole feeding: its bytes. */
  static int put(SisterCourts x, String text) {
    byte[] bytes = text.getBytes(StandardCharsets.ISO_8859_1);
    for (int from = 0; from < bytes.length; from += 20) {
      x.feed(four(bytes, from), four(bytes, from + 4), four(bytes, from + 8),
          four(bytes, from + 12), four(bytes, from + 16));
    }
    return bytes.length;
  }

  static int four(byte[] bytes, int from) {
    int all = 0;
    for (int at = from; at < from + 4; at++) {
      all = all << 8 | (at < bytes.length ? bytes[at] & 255 : 0);
    }
    return all;
  }

  static int tell(SisterCourts x, String text) {
    return x.courts(put(x, text));
  }

  static SisterCourts told(String text) {
    SisterCourts x = new SisterCourts();
    int lines = tell(x, text);
    if (lines < 0) {
      due("the test's own text: " + text, lines, 0);
    }
    return x;
  }

  /** Sets what the test itself needs: case, judge, day, and so on. */
  static void sit(SisterCourts x, int... threes) {
    for (int i = 0; i + 2 < threes.length; i += 3) {
      if (!x.set(threes[i], threes[i + 1], threes[i + 2])) {
        due("the test's own set(" + threes[i] + ", " + threes[i + 1] + ", " + threes[i + 2] + ")",
            x.why(threes[i], threes[i + 1], threes[i + 2]), 0);
      }
    }
  }

  /** The judges of all cases, one behind the other. */
  static String judges(SisterCourts x) {
    return ofCases(x, 5);
  }

  /** The days of all sittings, by cases. */
  static String days(SisterCourts x) {
    return ofCases(x, 6);
  }

  private static String ofCases(SisterCourts x, int what) {
    StringBuilder all = new StringBuilder();
    int cases = x.count(2);
    for (int file = 0; file < cases; file++) {
      all.append(file == 0 ? "" : " ").append(x.file(file, what));
    }
    return all.toString();
  }

  static String loads(SisterCourts x) {
    StringBuilder all = new StringBuilder();
    int judges = x.count(1);
    for (int judge = 0; judge < judges; judge++) {
      all.append(judge == 0 ? "" : " ").append(x.load(judge));
    }
    return all.toString();
  }

  /** All that is told and all sittings, by calls that change nothing. */
  static String seen(SisterCourts x) {
    StringBuilder all = new StringBuilder();
    for (int what = 0; what <= 5; what++) {
      all.append(x.count(what)).append(' ');
    }
    int towns = x.count(0);
    for (int from = 0; from < towns; from++) {
      for (int to = 0; to < towns; to++) {
        all.append(x.travel(from, to)).append(' ');
      }
    }
    int judges = x.count(1);
    for (int judge = 0; judge < judges; judge++) {
      for (int what = 0; what <= 3; what++) {
        all.append(x.judge(judge, what)).append(' ');
      }
    }
    for (int what = 0; what <= 6; what++) {
      all.append(ofCases(x, what)).append(' ');
    }
    return all.toString();
  }

  /**
   * All that an object holds; it is used up: all is undone, then the keeps are gone back to. For small
   * texts and few acts: nothing is promised of an object's calls beyond its 512th.
   */
  static String whole(SisterCourts x) {
    StringBuilder all = new StringBuilder(seen(x));
    while (x.undo() >= 0) {
      all.append('\n').append(seen(x));
    }
    for (int k = 0; k <= 1; k++) {
      all.append('\n').append(x.keep(k, true)).append(' ').append(seen(x));
    }
    return all.toString();
  }

  static void end() {
    endSentence();
    System.out.println(asked + " answers asked, " + wrong + " not as due");
    if (wrong != 0) {
      System.exit(1);
    }
  }
}
