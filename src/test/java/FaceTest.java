import java.io.IOException;
import java.lang.management.ManagementFactory;
import java.lang.reflect.Constructor;
import java.lang.reflect.Field;
import java.lang.reflect.InvocationTargetException;
import java.lang.reflect.Method;
import java.lang.reflect.Modifier;
import java.nio.file.Files;
import java.nio.file.Path;
import java.util.Arrays;
import java.util.List;
import java.util.NoSuchElementException;
import java.util.Set;
import java.util.TreeSet;

/** The public face, what may reach a caller, the room that calls take, and signs of LANGUAGE.md. */
public final class FaceTest {
  private static final List<String> FACE = List.of("feed int int int int int int", "courts int int",
      "travel int int int", "judge int int int", "file int int int", "why int int int int",
      "set boolean int int int", "clear int int", "sits int int int", "minutes int int int",
      "open int int int", "go int int int", "best long int int int", "bestOf int int int int",
      "take int int int", "load int int", "ranked int int", "fairer int int", "even int int",
      "lent int int int", "owed int int", "payments int", "share int int", "spread long",
      "waited int", "undo int", "keep boolean int boolean", "count int int");
  private static final int[] ODD = {Integer.MIN_VALUE, Integer.MIN_VALUE + 1, -1000, -2, -1, 0, 1, 2, 3,
      4, 5, 6, 7, 11, 12, 13, 31, 32, 50, 51, 60, 61, 64, 800, 801, Integer.MAX_VALUE};

  /** Six judges who may hear all, twelve cases of one town: the most ways. */
  private static final String DEAREST = "town a;judge p a 600 land;judge q a 600 land;"
      + "judge r a 600 land;judge s a 600 land;judge t a 600 land;judge u a 600 land;"
      + "case ca a land 0 11;case cb a land 0 12;case cc a land 0 13;case cd a land 0 14;"
      + "case ce a land 0 15;case cf a land 0 16;case cg a land 0 17;case ch a land 0 18;"
      + "case ci a land 0 19;case cj a land 0 20;case ck a land 0 21;case cl a land 0 22;";

  public static void main(String[] args) throws IOException {
    face();
    oddArguments();
    room();
    language();
    Check.end();
  }

  private static void face() {
    Set<String> got = new TreeSet<>();
    for (Method method : SisterCourts.class.getDeclaredMethods()) {
      if (!Modifier.isPrivate(method.getModifiers())) {
        StringBuilder signs = new StringBuilder(method.getName() + " " + method.getReturnType());
        for (Class<?> type : method.getParameterTypes()) {
          signs.append(' ').append(type);
        }
        got.add(signs.toString());
        List<Class<?>> thrown = Arrays.asList(method.getExceptionTypes());
        boolean throwing = List.of("judge", "file", "owed").contains(method.getName());
        Check.due(method.getName() + " tells its exception",
            thrown.equals(throwing ? List.of(NoSuchElementException.class) : List.of()), true);
      }
    }
    Check.due("the face's methods: " + got, got.equals(new TreeSet<>(FACE)), true);
    for (Field field : SisterCourts.class.getDeclaredFields()) {
      boolean seen = !Modifier.isPrivate(field.getModifiers());
      Check.due("seen: " + field.getName(), seen, field.getName().equals("NONE"));
    }
    Constructor<?>[] constructors = SisterCourts.class.getDeclaredConstructors();
    Check.due("constructors", constructors.length, 1);
    Check.due("it is public", Modifier.isPublic(constructors[0].getModifiers()), true);
    Check.due("final", Modifier.isFinal(SisterCourts.class.getModifiers()), true);
  }

  private static void oddArguments() {
    for (Method method : SisterCourts.class.getDeclaredMethods()) {
      if (Modifier.isPublic(method.getModifiers())) {
        SisterCourts blank = new SisterCourts();
        SisterCourts full = Check.told(DEAREST);
        full.go(0, 3);
        for (int seed = 0; seed < 3000; seed++) {
          call(blank, method, seed);
          call(full, method, seed);
        }
      }
    }
  }

  private static void call(SisterCourts x, Method method, int seed) {
    Object[] given = new Object[method.getParameterCount()];
    int left = seed * 7919;
    for (int i = 0; i < given.length; i++) {
      int odd = ODD[Math.floorMod(left, ODD.length)];
      left = left / ODD.length + 31 * i;
      given[i] = method.getParameterTypes()[i] == int.class ? (Object) odd : (Object) (odd > 3);
    }
    try {
      method.invoke(x, given);
    } catch (InvocationTargetException e) {
      boolean due = e.getCause() instanceof NoSuchElementException && method.getExceptionTypes().length > 0;
      Check.due(method.getName() + Arrays.toString(given) + " throws " + e.getCause(), due, true);
    } catch (IllegalAccessException e) {
      Check.due(method.getName() + " is open to all", 1, 0);
    }
  }

  private static void room() {
    if (!(ManagementFactory.getThreadMXBean() instanceof com.sun.management.ThreadMXBean counter)) {
      return;
    }
    long thread = Thread.currentThread().getId();
    SisterCourts x = Check.told(DEAREST);
    x.best(0, 5, 0);
    long before = counter.getThreadAllocatedBytes(thread);
    long sum = 0;
    for (int i = 0; i < 100; i++) {
      sum += x.best(i % 60, 5, 2) + x.take(i % 60, 5) + x.go(0, 60) + x.even(50) + x.payments()
          + x.spread() + x.share(0) + x.fairer(0) + x.undo() + x.undo() + x.undo();
    }
    long taken = counter.getThreadAllocatedBytes(thread) - before;
    Check.due("room taken by calls, though their sum is " + sum + ": " + taken, taken < 20000, true);
  }

  private static void language() throws IOException {
    String source = Files.readString(Path.of("src/main/java/SisterCourts.java"));
    String code = source.replaceAll("(?s)/\\*.*?\\*/", "").replaceAll("//.*", "");
    for (String ruledOut : new String[] {"->", "::", "Exact", "Float.", "Double.", "synchronized",
        "finally", "assert ", "catch", "static final float", "static final double", "package ",
        "protected", "hashCode", "toString", "Integer.MIN", "Integer.MAX", "new Object"}) {
      Check.due("'" + ruledOut + "' in the class", code.contains(ruledOut), false);
    }
    Check.due("imports", code.split("\\bimport ", -1).length - 1, 1);
    Check.due("signs beyond 126", source.chars().filter(c -> c > 126).count(), 0);
  }
}
