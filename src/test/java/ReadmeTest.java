import java.io.File;
import java.lang.reflect.Method;
import java.lang.reflect.Modifier;
import java.nio.file.Files;
import java.nio.file.Path;
import java.util.Set;
import java.util.TreeSet;
import java.util.regex.Matcher;
import java.util.regex.Pattern;

/** README.md: its examples answer what it tells, and it names every call and every test. */
public final class ReadmeTest {
  private static final Pattern EXAMPLE = Pattern.compile("x\\.(\\w+)\\((.*)\\); +// (-?\\d+).*");
  private static final String MADE = "BridgeByTwo x = new BridgeByTwo();";

  private final Check check = new Check();
  private BridgeByTwo x;

  public static void main(String[] args) throws Exception {
    ReadmeTest test = new ReadmeTest();
    String page = Files.readString(Path.of("README.md"));
    test.examples(page);
    test.calls(page);
    test.tests(page);
    test.check.end("ReadmeTest");
  }

  private void examples(String page) throws Exception {
    Matcher block = Pattern.compile("(?s)```java\n(.*?)```").matcher(page);
    int blocks = 0;
    while (block.find()) {
      for (String line : block.group(1).split("\n")) {
        example(line);
      }
      blocks++;
    }
    check.due("examples in README.md", blocks, 2);
  }

  private void example(String line) throws Exception {
    Matcher m = EXAMPLE.matcher(line);
    boolean isCall = m.matches();
    check.so("an example or a new object: " + line, isCall || line.equals(MADE));
    if (isCall) {
      check.due("README.md: " + line, ask(m.group(1), m.group(2)), Long.parseLong(m.group(3)));
    } else {
      x = new BridgeByTwo();
    }
  }

  private long ask(String name, String told) throws Exception {
    String[] parts = told.isEmpty() ? new String[0] : told.split(", ");
    Object[] arguments = new Object[parts.length];
    for (int i = 0; i < parts.length; i++) {
      arguments[i] = parts[i].startsWith("'") ? (int) parts[i].charAt(1) : Integer.parseInt(parts[i]);
    }
    for (Method m : BridgeByTwo.class.getMethods()) {
      if (m.getName().equals(name) && m.getParameterCount() == arguments.length) {
        return ((Number) m.invoke(x, arguments)).longValue();
      }
    }
    throw new IllegalStateException("no such call: " + name);
  }

  /** In the tables each call stands once, with as many arguments as it has. */
  private void calls(String page) {
    Set<String> told = new TreeSet<>();
    Matcher row = Pattern.compile("(?m)^\\| `(\\w+)\\((.*?)\\)` \\|").matcher(page);
    while (row.find()) {
      int arguments = row.group(2).isEmpty() ? 0 : row.group(2).split(", ").length;
      check.so(row.group(1) + " is told once", told.add(row.group(1) + "/" + arguments));
    }
    Set<String> due = new TreeSet<>();
    for (Method m : BridgeByTwo.class.getDeclaredMethods()) {
      if (Modifier.isPublic(m.getModifiers())) {
        due.add(m.getName() + "/" + m.getParameterCount());
      }
    }
    check.same("calls in README.md", told, due);
  }

  private void tests(String page) {
    for (File file : new File("src/test/java").listFiles()) {
      String name = file.getName().replace(".java", "");
      check.so("README.md tells of " + name, !name.endsWith("Test") || page.contains(name));
    }
  }
}
