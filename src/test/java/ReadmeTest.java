import java.io.ByteArrayOutputStream;
import java.io.IOException;
import java.io.PrintStream;
import java.lang.reflect.Method;
import java.lang.reflect.Modifier;
import java.net.URL;
import java.net.URLClassLoader;
import java.nio.file.Files;
import java.nio.file.Path;
import java.util.ArrayList;
import java.util.List;
import java.util.regex.Matcher;
import java.util.regex.Pattern;
import java.util.stream.Stream;
import javax.tools.ToolProvider;

/** README.md: what its example prints is what it says, and its tables leave out no call and no test. */
public final class ReadmeTest {
  private static final Pattern BLOCK = Pattern.compile("```java\n(.*?)```", Pattern.DOTALL);
  private static final Pattern ROW = Pattern.compile("println\\(.*\\);\\s*// (\\S+)");

  public static void main(String[] args) throws IOException, ReflectiveOperationException {
    String page = Files.readString(Path.of("README.md"));
    example(page);
    everyCall(page);
    everyTest(page);
    Check.end();
  }

  private static void example(String page) throws IOException, ReflectiveOperationException {
    Matcher block = BLOCK.matcher(page);
    boolean found = block.find();
    Check.due("README has an example", found, true);
    if (!found) {
      return;
    }
    List<String> told = new ArrayList<>();
    Matcher row = ROW.matcher(block.group(1));
    while (row.find()) {
      told.add(row.group(1));
    }
    List<String> printed = printedBy(block.group(1));
    Check.due("rows of the example, " + printed, printed.size(), told.size());
    for (int i = 0; i < Math.min(told.size(), printed.size()); i++) {
      Check.due("row " + i + " of the example says " + told.get(i) + ", prints " + printed.get(i),
          told.get(i).equals(printed.get(i)), true);
    }
  }

  private static List<String> printedBy(String code) throws IOException, ReflectiveOperationException {
    Path work = Files.createTempDirectory("readme");
    Path file = work.resolve("Example.java");
    PrintStream screen = System.out;
    ByteArrayOutputStream printed = new ByteArrayOutputStream();
    try {
      Files.writeString(file, code);
      int refused = ToolProvider.getSystemJavaCompiler().run(null, null, null, "-cp",
          System.getProperty("java.class.path"), "-d", work.toString(), file.toString());
      Check.due("the example is refused by javac", refused, 0);
      if (refused != 0) {
        return List.of();
      }
      try (URLClassLoader loader = new URLClassLoader(new URL[] {work.toUri().toURL()})) {
        System.setOut(new PrintStream(printed, true));
        loader.loadClass("Example").getMethod("main", String[].class).invoke(null, (Object) new String[0]);
      }
    } finally {
      System.setOut(screen);
      try (Stream<Path> files = Files.list(work)) {
        for (Path each : files.toList()) {
          Files.delete(each);
        }
      }
      Files.delete(work);
    }
    return printed.toString().lines().toList();
  }

  private static void everyCall(String page) {
    for (Method method : SisterCourts.class.getDeclaredMethods()) {
      if (Modifier.isPublic(method.getModifiers())) {
        Matcher row = Pattern.compile("\\| `" + method.getName() + "\\((.*?)\\)` \\|").matcher(page);
        boolean found = row.find();
        Check.due("README tells of " + method.getName(), found, true);
        if (found) {
          int given = row.group(1).isEmpty() ? 0 : row.group(1).split(",").length;
          Check.due("arguments of " + method.getName(), given, method.getParameterCount());
        }
      }
    }
  }

  private static void everyTest(String page) throws IOException {
    try (Stream<Path> files = Files.list(Path.of("src/test/java"))) {
      for (Path each : files.toList()) {
        String name = each.getFileName().toString().replace(".java", "");
        if (name.endsWith("Test")) {
          Check.due("README tells of " + name, page.contains("| " + name + " |"), true);
        }
      }
    }
  }
}
