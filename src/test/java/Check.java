import java.nio.charset.StandardCharsets;
import java.util.NoSuchElementException;

/** What the project's tests share: answers that are due, and texts put on the tape. */
final class Check {
  /** A call whose answer counts as a long (a boolean counts 1 or 0). */
  interface Call {
    long answer();
  }

  private static int asked = 0;
  private static int wrong = 0;

  private Check() {
  }

  static void due(String call, long got, long want) {
    asked++;
    if (got != want) {
      wrong++;
      System.out.println(call + " answered " + got + ", due is " + want);
    }
  }

  static void due(String call, boolean got, boolean want) {
    due(call, got ? 1L : 0L, want ? 1L : 0L);
  }

  static void dueNoSuch(String call, Call made) {
    asked++;
    try {
      long got = made.answer();
      wrong++;
      System.out.println(call + " answered " + got + ", due is a NoSuchElementException");
    } catch (NoSuchElementException e) {
      // as due
    }
  }

  /** Puts the text on the tape, zeros behind it up to a whole feeding: its bytes. */
  static int put(SisterCourts x, String text) {
    byte[] bytes = text.getBytes(StandardCharsets.ISO_8859_1);
    for (int from = 0; from < bytes.length; from += 20) {
      x.feed(four(bytes, from), four(bytes, from + 4), four(bytes, from + 8),
          four(bytes, from + 12), four(bytes, from + 16));
    }
    return bytes.length;
  }

  static int four(byte[] bytes, int from) {
    int all = 0;
    for (int at = from; at < from + 4; at++) {
      all = all << 8 | (at < bytes.length ? bytes[at] & 255 : 0);
    }
    return all;
  }

  static int tell(SisterCourts x, String text) {
    return x.courts(put(x, text));
  }

  static SisterCourts told(String text) {
    SisterCourts x = new SisterCourts();
    int lines = tell(x, text);
    if (lines < 0) {
      due("the test's own text: " + text, lines, 0);
    }
    return x;
  }

  static void end() {
    System.out.println(asked + " answers asked, " + wrong + " not as due");
    if (wrong != 0) {
      System.exit(1);
    }
  }
}
