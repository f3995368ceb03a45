import java.lang.reflect.Constructor;
import java.lang.reflect.Field;
import java.lang.reflect.Method;
import java.lang.reflect.Modifier;
import java.nio.file.Files;
import java.nio.file.Path;
import java.util.Arrays;
import java.util.Set;
import java.util.TreeSet;
import java.util.regex.Matcher;
import java.util.regex.Pattern;
import java.util.stream.Collectors;

/** The document's public face, and those rules of LANGUAGE.md that can be seen by words and members. */
public final class FaceTest {
  private static final Check CHECK = new Check();

  public static void main(String[] args) throws Exception {
    String doc = Files.readString(Path.of("../shared/DOC.md"));
    String source = Files.readString(Path.of("src/main/java/BridgeByTwo.java"));
    face(doc);
    membersInside();
    words(source);
    CHECK.end("FaceTest");
  }

  private static void face(String doc) {
    Set<String> due = new TreeSet<>();
    Matcher told = Pattern.compile("(?m)^    public (int|long) (\\w+)\\((.*)\\);$").matcher(doc);
    while (told.find()) {
      String types = told.group(3).replaceAll(" \\w+(,|$)", "$1").replace(" ", "");
      due.add(told.group(1) + " " + told.group(2) + "(" + types + ")");
    }
    Set<String> got = new TreeSet<>();
    Set<String> hidden = new TreeSet<>();
    for (Method m : BridgeByTwo.class.getDeclaredMethods()) {
      String types = Arrays.stream(m.getParameterTypes()).map(Class::getName).collect(Collectors.joining(","));
      if (Modifier.isPublic(m.getModifiers()) && !Modifier.isStatic(m.getModifiers())) {
        got.add(m.getReturnType() + " " + m.getName() + "(" + types + ")");
      } else {
        hidden.add(m.getName());
        so(m + " is private", Modifier.isPrivate(m.getModifiers()));
      }
    }
    CHECK.due("methods in the document", due.size(), 42);
    so("the face is " + due + ", not " + got, due.equals(got));
    for (Method m : BridgeByTwo.class.getDeclaredMethods()) {
      so(m.getName() + " is public or private", !(Modifier.isPublic(m.getModifiers()) && hidden.contains(m.getName())));
    }
    so("public and final", Modifier.isPublic(BridgeByTwo.class.getModifiers())
        && Modifier.isFinal(BridgeByTwo.class.getModifiers()));
    Constructor<?>[] constructors = BridgeByTwo.class.getDeclaredConstructors();
    CHECK.due("constructors", constructors.length, 1);
    so("public constructor", Modifier.isPublic(constructors[0].getModifiers()));
    CHECK.due("without arguments", constructors[0].getParameterCount(), 0);
  }

  private static void membersInside() {
    fields(BridgeByTwo.class);
    Class<?>[] inside = BridgeByTwo.class.getDeclaredClasses();
    so("some twelve classes", inside.length <= 11);
    for (Class<?> c : inside) {
      so(c + " is static", Modifier.isStatic(c.getModifiers()));
      so(c + " is hidden", !Modifier.isPublic(c.getModifiers()) && !Modifier.isProtected(c.getModifiers()));
      fields(c);
    }
  }

  private static void fields(Class<?> c) {
    int own = 0;
    for (Field f : c.getDeclaredFields()) {
      so(f + " is private", Modifier.isPrivate(f.getModifiers()));
      if (Modifier.isStatic(f.getModifiers())) {
        so(f + " is final", Modifier.isFinal(f.getModifiers()));
      } else {
        own++;
      }
    }
    so("some twenty fields in " + c, own <= 20);
  }

  private static void words(String source) {
    String code = source.replaceAll("(?s)/\\*.*?\\*/", " ").replaceAll("//[^\n]*", " ");
    String[] barred = {"throw", "throws", "try", "catch", "finally", "synchronized", "assert", "import", "package",
      "double", "float", "protected", "volatile", "transient", "native", "instanceof", "equals", "hashCode", "toString"};
    for (String word : barred) {
      so(word + " is not used", !Pattern.compile("\\b" + word + "\\b").matcher(code).find());
    }
    so("no lambda", !code.contains("->"));
    so("no method reference", !code.contains("::"));
    so("signs are ASCII", source.chars().allMatch(c -> c < 128));
  }

  private static void so(String what, boolean is) {
    CHECK.due(what, is ? 1 : 0, 1);
  }
}
