import java.lang.reflect.Method;
import java.util.ArrayList;
import java.util.Comparator;
import java.util.List;

/** Long runs of calls, drawn from seeds, of the program and of the model beside it. */
public final class ModelTest {
  private static final int RUNS = 500;
  private static final int CALLS = 512;
  private static final int[] ODD = {-1, -2, 60, 61, 62, 99, 100, 255, 256, Integer.MIN_VALUE, Integer.MAX_VALUE};

  private final Check check = new Check();
  private final List<Method> asked = new ArrayList<>();
  private final List<Method> modelled = new ArrayList<>();
  private long seed;
  private int run;

  private int draw(int m) {
    seed = seed * 6364136223846793005L + 1442695040888963407L;
    return (int) ((seed >>> 33) % m);
  }

  public static void main(String[] args) throws Exception {
    ModelTest test = new ModelTest();
    test.findMethods();
    for (int run = 0; run < RUNS; run++) {
      test.seed = run;
      test.run = run;
      test.askBoth();
    }
    test.check.end("ModelTest");
  }

  private void findMethods() throws Exception {
    for (Method m : BridgeByTwo.class.getDeclaredMethods()) {
      if (java.lang.reflect.Modifier.isPublic(m.getModifiers())) {
        asked.add(m);
      }
    }
    asked.sort(Comparator.comparing(Method::getName));
    for (Method m : asked) {
      Method other = Model.class.getDeclaredMethod(m.getName(), m.getParameterTypes());
      other.setAccessible(true);
      modelled.add(other);
    }
  }

  private void askBoth() throws Exception {
    BridgeByTwo x = new BridgeByTwo();
    Model model = new Model();
    StringBuilder told = new StringBuilder();
    int first = run % 10 == 9 ? quarrelLong(x, model) : 0;
    for (int call = first; call < CALLS; call++) {
      if (told.length() == 0 && draw(8) == 0) {
        told.append(text());
      }
      if (told.length() > 0) {
        int c = told.charAt(0);
        told.deleteCharAt(0);
        String name = "run " + run + ", call " + call + ": ";
        if (c == '!') {
          check.due(name + "bridge", x.bridge(), model.bridge());
        } else {
          check.due(name + "letter " + c, x.letter(c), model.letter(c));
        }
      } else {
        call(x, model, "run " + run + ", call " + call + ": ");
      }
    }
  }

  /** Both come to some 980 quarrels and day 900; how many calls that were. */
  private int quarrelLong(BridgeByTwo x, Model model) {
    String name = "run " + run + ", quarrelling: ";
    check.due(name + "styles", x.styles(1, 3), model.styles(1, 3));
    check.due(name + "spites", x.spites(1, 0), model.spites(1, 0));
    int calls = 2;
    for (int tens = 0; tens < 98; tens++) {
      int stones = x.days(9);
      check.due(name + "days", stones, model.days(9));
      check.due(name + "takes", x.takes(stones - 1), model.takes(stones - 1));
      calls += 2;
    }
    return calls;
  }

  private void call(BridgeByTwo x, Model model, String where) throws Exception {
    int i = draw(2) == 0 ? changing() : draw(asked.size());
    if (run % 4 == 3 && asked.get(i).getParameterCount() == 0) {
      // A row that is seldom judged or cleared becomes full.
      i = draw(asked.size());
    }
    Method m = asked.get(i);
    Object[] args = new Object[m.getParameterCount()];
    StringBuilder name = new StringBuilder(where).append(m.getName());
    for (int k = 0; k < args.length; k++) {
      args[k] = argument(m.getName(), k, model);
      name.append(' ').append(args[k]);
    }
    long got = ((Number) m.invoke(x, args)).longValue();
    long due = ((Number) modelled.get(i).invoke(model, args)).longValue();
    check.due(name.toString(), got, due);
  }

  private int changing() {
    String[] names = {"lays", "lays", "lays", "corrects", "corrects", "takes", "takes", "styles", "styles", "hands",
      "spites", "spites", "days", "image", "on", "row", "row", "row", "row"};
    String name = names[draw(names.length)];
    for (int i = 0; i < asked.size(); i++) {
      if (asked.get(i).getName().equals(name)) {
        return i;
      }
    }
    throw new IllegalStateException(name);
  }

  private int argument(String name, int k, Model model) {
    if (draw(16) == 0) {
      return ODD[draw(ODD.length)];
    }
    if (name.equals("row")) {
      return rowNumber(model);
    }
    if (name.equals("letter")) {
      return draw(256);
    }
    if (name.equals("lots")) {
      return k == 0 ? draw(22) : k == 1 ? draw(1 << 30) * (draw(2) * 2 - 1) : draw(3);
    }
    if (name.equals("fever")) {
      return k == 0 ? draw(9) : k == 1 ? draw(22) : draw(3);
    }
    if (name.equals("days")) {
      return draw(8) == 0 ? draw(62) : 1 + draw(2);
    }
    if (name.equals("then") || name.equals("yields") || name.equals("swap") || name.equals("two")) {
      return k == 1 ? draw(4) : draw(2) == 0 ? draw(8) : draw(62);
    }
    if (name.equals("best")) {
      return k == 0 ? draw(3) : k == 1 ? draw(22) : draw(3);
    }
    if (name.equals("count")) {
      return draw(19);
    }
    return argumentOfStones(name, k);
  }

  private int argumentOfStones(String name, int k) {
    switch (name) {
      case "stone":
        return k == 0 ? draw(13) : draw(7);
      case "joint":
        return k == 0 ? draw(12) : draw(3);
      case "mason":
        return k == 0 ? draw(3) : draw(5);
      case "lays":
        return k == 0 ? draw(25) % 6 : k == 1 ? draw(10) : draw(2);
      case "corrects":
        return k == 0 ? draw(12) : k == 1 ? draw(6) : draw(10);
      case "takes":
        return draw(3) == 0 ? draw(12) : draw(5);
      case "styles":
        return k == 0 ? draw(2) : draw(6);
      case "hands":
      case "spites":
        return k == 0 ? draw(2) : draw(10);
      case "whoLaid":
        return draw(12);
      case "whatIs":
        return k == 0 ? draw(12) : draw(2);
      default:
        return draw(4);
    }
  }

  /** Often the next number that the bridge itself tells, so that a row is often so. */
  private int rowNumber(Model model) {
    int at = model.row.size();
    int stones = model.world.stones.size();
    int pick = draw(16);
    if (pick == 0) {
      return draw(101);
    }
    if (run % 2 == 0 && at < stones - 1) {
      int aside = draw(4) == 0 ? draw(3) - 1 : 0;
      return Math.max(0, model.world.holds(at) + aside);
    }
    return at < stones ? model.world.leans()[at] + 50 : draw(101);
  }

  private String text() {
    StringBuilder t = new StringBuilder();
    int n = 1 + draw(draw(4) == 0 ? 24 : 5);
    for (int i = 0; i < n; i++) {
      t.append(statement());
    }
    if (draw(4) == 0) {
      int at = draw(t.length());
      if (draw(2) == 0) {
        t.setCharAt(at, "pewhkrscmud0123456789;x/:".charAt(draw(25)));
      } else {
        t.deleteCharAt(at);
      }
    }
    return t.append('!').toString();
  }

  private String statement() {
    char kind = "pewhkr".charAt(draw(6));
    int a = draw(10);
    int b = draw(10);
    switch (draw(7)) {
      case 0:
        return "c" + draw(7) + kind + a + ";";
      case 1:
        return "m" + (draw(12) == 0 ? 2 : draw(2)) + kind + a + b + ";";
      case 2:
        return "u" + draw(4) + ";";
      case 3:
        return draw(4) == 0 ? "d" + a + b + ";" : "d0" + (1 + draw(3)) + ";";
      default:
        return "s" + kind + a + (draw(12) == 0 ? 2 : draw(2)) + ";";
    }
  }
}
