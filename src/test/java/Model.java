import java.math.BigInteger;
import java.util.ArrayList;
import java.util.List;
import java.util.function.Consumer;
import java.util.function.ToIntFunction;
import java.util.regex.Matcher;
import java.util.regex.Pattern;

/**
 * The document's words again, written another way than the program (stones as objects of a tree of classes,
 * texts by patterns, refusals as exceptions), for runs in which both are asked the same.
 */
final class Model {
  private static final int NONE = -9;

  static class Plain implements Cloneable {
    int figure;
    int by;

    int kind() {
      return 0;
    }

    int holds() {
      return figure + 1;
    }

    int leans() {
      return 0;
    }

    Plain twin() {
      Plain twin = of(kind());
      twin.figure = figure;
      twin.by = by;
      return twin;
    }

    static Plain of(int kind) {
      return switch (kind) {
        case 0 -> new Plain();
        case 1 -> new East();
        case 2 -> new West();
        case 3 -> new Heavy();
        case 4 -> new Key();
        default -> new Rough();
      };
    }

    static Plain of(int kind, int figure, int by) {
      Plain stone = of(kind);
      stone.figure = figure;
      stone.by = by;
      return stone;
    }
  }

  static class East extends Plain {
    @Override int kind() {
      return 1;
    }

    @Override int leans() {
      return figure > 5 ? 2 : 1;
    }
  }

  static class West extends East {
    @Override int kind() {
      return 2;
    }

    @Override int holds() {
      return super.holds() - 1;
    }

    @Override int leans() {
      return -super.leans();
    }
  }

  static class Heavy extends Plain {
    @Override int kind() {
      return 3;
    }

    @Override int holds() {
      return super.holds() * 2;
    }
  }

  static class Key extends Heavy {
    @Override int kind() {
      return 4;
    }

    @Override int holds() {
      return super.holds() + 3;
    }
  }

  static class Rough extends West {
    @Override int kind() {
      return 5;
    }

    @Override int holds() {
      return super.holds() / 2;
    }

    @Override int leans() {
      return super.leans() - 1;
    }
  }

  static final class Refusal extends RuntimeException {
    private static final long serialVersionUID = 1;
    final int code;

    Refusal(int code) {
      super(null, null, false, false);
      this.code = code;
    }
  }

  /** Stones, masons and days. */
  static final class World {
    List<Plain> stones = new ArrayList<>();
    int[] style = {0, 0};
    int[] hand = {5, 5};
    int[] spite = {5, 5};
    int quarrels = 0;
    int day = 0;

    World twin() {
      World w = new World();
      for (Plain s : stones) {
        w.stones.add(s.twin());
      }
      w.style = style.clone();
      w.hand = hand.clone();
      w.spite = spite.clone();
      w.quarrels = quarrels;
      w.day = day;
      return w;
    }

    World with(Consumer<World> change) {
      World w = twin();
      change.accept(w);
      return w;
    }

    World after(int n) {
      return with(w -> {
        for (int i = 0; i < n; i++) {
          w.day++;
          w.turn(0);
          w.turn(1);
        }
      });
    }

    void turn(int m) {
      int n = stones.size();
      if (n > 0) {
        Plain last = stones.get(n - 1);
        if (last.by == 1 - m && last.kind() != style[m] && (spite[m] + quarrels) % 10 > 4) {
          stones.set(n - 1, Plain.of(style[m], hand[m], m));
          quarrels = quarrels == 999 ? 999 : quarrels + 1;
          return;
        }
      }
      if (n < 12) {
        stones.add(Plain.of(style[m], hand[m], m));
      }
    }

    int holds(int j) {
      Plain a = stones.get(j);
      Plain b = stones.get(j + 1);
      int h = Math.min(a.holds(), b.holds());
      if (a.kind() == b.kind()) {
        h += 3;
      } else if (a.by != b.by) {
        h -= 1;
      }
      return h < 0 ? 0 : h;
    }

    int load(int j) {
      int behind = stones.size() - (j + 1);
      return behind / 2 + 1;
    }

    int[] leans() {
      int[] leans = new int[stones.size()];
      for (int i = 0; i < leans.length; i++) {
        leans[i] = stones.get(i).leans() + (i == 0 ? 0 : leans[i - 1]);
      }
      return leans;
    }

    int breaks() {
      for (int j = 0; j + 1 < stones.size(); j++) {
        if (holds(j) < load(j)) {
          return j;
        }
      }
      return NONE;
    }

    int tips() {
      int[] l = leans();
      for (int i = 0; i < l.length; i++) {
        if (l[i] > 6 || l[i] < -6) {
          return i;
        }
      }
      return NONE;
    }

    boolean stands() {
      return breaks() < 0 && tips() < 0;
    }

    /** SPARE and by which joint. */
    int[] spare() {
      int[] best = {0, NONE};
      for (int j = 0; j + 1 < stones.size(); j++) {
        int over = holds(j) - load(j);
        if (best[1] == NONE || over < best[0]) {
          best = new int[] {over, j};
        }
      }
      return best;
    }

    int endLean() {
      int[] l = leans();
      return l.length == 0 ? 0 : l[l.length - 1];
    }

    int share(int m) {
      return (int) stones.stream().filter(s -> s.by == m).count();
    }
  }

  World world = new World();
  World kept = null;
  String text = "";
  List<Integer> row = new ArrayList<>();
  int[] refused = new int[7];

  interface Answer {
    long give();
  }

  /** 0: refusals as they are; else less them. */
  private long ask(long far, Answer answer) {
    try {
      return answer.give();
    } catch (Refusal r) {
      refused[-r.code]++;
      return far == 0 ? r.code : far - r.code;
    }
  }

  private long ask(Answer answer) {
    return ask(0, answer);
  }

  private static void refuseIf(boolean so, int code) {
    if (so) {
      throw new Refusal(code);
    }
  }

  private static void in(int v, int least, int most) {
    refuseIf(v < least, -4);
    refuseIf(v > most, -6);
  }

  private void isStone(int i) {
    refuseIf(i < 0 || i >= world.stones.size(), -1);
  }

  private static void isMason(int m) {
    refuseIf(m < 0 || m > 1, -1);
  }

  private static void other(int what, int most) {
    refuseIf(what < 0 || what > most, -2);
  }

  long letter(int c) {
    return ask(() -> {
      in(c, 0, 255);
      refuseIf(text.length() == 96, -6);
      text += (char) c;
      return text.length();
    });
  }

  private static final String[] FORMS = {
    "s[pewhkr][0-9][0-9];", "c[0-9][pewhkr][0-9];", "m[0-9][pewhkr][0-9][0-9];", "u[0-9];", "d[0-9][0-9];"};

  private static boolean canGoOn(String start) {
    for (String form : FORMS) {
      Matcher m = Pattern.compile(form).matcher(start);
      if (m.lookingAt()) {
        return start.length() == m.end() || canGoOn(start.substring(m.end()));
      }
      if (m.hitEnd()) {
        return true;
      }
    }
    return false;
  }

  long bridge() {
    String t = text;
    text = "";
    for (int i = 1; i <= t.length(); i++) {
      if (!canGoOn(t.substring(0, i))) {
        return -1000 - (i - 1);
      }
    }
    if (!t.endsWith(";")) {
      return -1000 - t.length();
    }
    World w = world.twin();
    int place = 0;
    String[] statements = t.split(";");
    for (String s : statements) {
      World next = done(w, s);
      if (next == null) {
        return -2000 - place;
      }
      w = next;
      place += s.length() + 1;
    }
    world = w;
    return statements.length;
  }

  private static int kindOf(char c) {
    return "pewhkr".indexOf(c);
  }

  private static World done(World before, String s) {
    World w = before.twin();
    int a = s.charAt(1) - '0';
    switch (s.charAt(0)) {
      case 's' -> {
        int by = s.charAt(3) - '0';
        if (by > 1 || w.stones.size() == 12) {
          return null;
        }
        w.stones.add(Plain.of(kindOf(s.charAt(1)), s.charAt(2) - '0', by));
      }
      case 'c' -> {
        if (a >= w.stones.size()) {
          return null;
        }
        w.stones.set(a, Plain.of(kindOf(s.charAt(2)), s.charAt(3) - '0', w.stones.get(a).by));
      }
      case 'm' -> {
        if (a > 1) {
          return null;
        }
        w.style[a] = kindOf(s.charAt(2));
        w.hand[a] = s.charAt(3) - '0';
        w.spite[a] = s.charAt(4) - '0';
      }
      case 'u' -> {
        if (a == 0 || a > w.stones.size()) {
          return null;
        }
        w.stones.subList(w.stones.size() - a, w.stones.size()).clear();
      }
      default -> {
        int days = Integer.parseInt(s.substring(1));
        if (days == 0 || days > 60 || w.day + days > 999) {
          return null;
        }
        return w.after(days);
      }
    }
    return w;
  }

  long stone(int i, int what) {
    return ask(1000000000, () -> {
      isStone(i);
      other(what, 5);
      Plain s = world.stones.get(i);
      return new int[] {s.kind(), s.figure, s.by, s.holds(), s.leans(), world.leans()[i]}[what];
    });
  }

  long joint(int j, int what) {
    return ask(() -> {
      refuseIf(j < 0 || j > world.stones.size() - 2, -1);
      other(what, 1);
      return what == 0 ? world.holds(j) : world.load(j);
    });
  }

  long mason(int m, int what) {
    return ask(() -> {
      isMason(m);
      other(what, 3);
      return new int[] {world.style[m], world.hand[m], world.spite[m], world.share(m)}[what];
    });
  }

  long lays(int kind, int figure, int m) {
    return ask(() -> {
      other(kind, 5);
      in(figure, 0, 9);
      isMason(m);
      refuseIf(world.stones.size() == 12, -6);
      world.stones.add(Plain.of(kind, figure, m));
      return world.stones.size() - 1;
    });
  }

  long corrects(int i, int kind, int figure) {
    return ask(() -> {
      isStone(i);
      other(kind, 5);
      in(figure, 0, 9);
      Plain old = world.stones.set(i, Plain.of(kind, figure, world.stones.get(i).by));
      return old.kind() * 10 + old.figure;
    });
  }

  long takes(int n) {
    return ask(() -> {
      in(n, 1, world.stones.size());
      for (int i = 0; i < n; i++) {
        world.stones.remove(world.stones.size() - 1);
      }
      return world.stones.size();
    });
  }

  long styles(int m, int kind) {
    return ask(() -> {
      isMason(m);
      other(kind, 5);
      int old = world.style[m];
      world.style[m] = kind;
      return old;
    });
  }

  private long trait(int[] of, int m, int v) {
    isMason(m);
    in(v, 0, 9);
    int old = of[m];
    of[m] = v;
    return old;
  }

  long hands(int m, int v) {
    return ask(() -> trait(world.hand, m, v));
  }

  long spites(int m, int v) {
    return ask(() -> trait(world.spite, m, v));
  }

  long days(int n) {
    return ask(() -> {
      in(n, 1, 60);
      refuseIf(world.day + n > 999, -6);
      world = world.after(n);
      return world.stones.size();
    });
  }

  private static int bit(boolean so) {
    return so ? 1 : 0;
  }

  long stands(int what) {
    return ask(() -> {
      other(what, 2);
      return new int[] {bit(world.stands()), world.breaks(), world.tips()}[what];
    });
  }

  long spare(int what) {
    return ask(1000000000, () -> {
      other(what, 1);
      return world.spare()[what];
    });
  }

  long lean(int what) {
    return ask(1000000000, () -> {
      other(what, 1);
      int far = 0;
      for (int l : world.leans()) {
        far = Math.max(far, l < 0 ? -l : l);
      }
      return what == 0 ? world.endLean() : far;
    });
  }

  long then(int n, int what) {
    return ask(() -> {
      in(n, 0, 60);
      other(what, 2);
      World w = world.after(n);
      return new int[] {w.stones.size(), w.quarrels, bit(w.stands())}[what];
    });
  }

  long up(int what) {
    return ask(() -> {
      other(what, 1);
      for (int n = 0; n <= 60; n++) {
        World w = world.after(n);
        if (what == 0 ? w.stones.size() == 12 && w.stands() : !w.stands()) {
          return n;
        }
      }
      return NONE;
    });
  }

  /** The first of those that are allowed (not null) of which it is most; -9. */
  private static int bestOf(World[] worlds, ToIntFunction<World> of) {
    int best = NONE;
    for (int i = 0; i < worlds.length; i++) {
      if (worlds[i] != null && (best == NONE || of.applyAsInt(worlds[i]) > of.applyAsInt(worlds[best]))) {
        best = i;
      }
    }
    return best;
  }

  long next(int m) {
    return ask(() -> {
      isMason(m);
      World[] with = new World[6];
      for (int k = 0; k < 6; k++) {
        Plain more = Plain.of(k, 5, m);
        World w = world.with(v -> v.stones.add(more));
        with[k] = Math.abs(w.endLean()) <= 6 ? w : null;
      }
      return bestOf(with, w -> w.spare()[0]);
    });
  }

  private static World remade(World w, int i, int kind, int figure, int by) {
    return w.with(v -> v.stones.set(i, Plain.of(kind, figure, by)));
  }

  long mend() {
    if (world.stands()) {
      return NONE;
    }
    for (int code = 0; code < 10 * world.stones.size(); code++) {
      Plain s = world.stones.get(code / 10);
      if (code % 10 < 6 && remade(world, code / 10, code % 10, s.figure, s.by).stands()) {
        return code;
      }
    }
    return NONE;
  }

  long fewest() {
    int n = world.stones.size();
    List<Integer> order = new ArrayList<>();
    for (int bits = 0; bits < 1 << n; bits++) {
      order.add(bits);
    }
    order.sort((a, b) -> Integer.bitCount(a) != Integer.bitCount(b)
        ? Integer.bitCount(a) - Integer.bitCount(b) : a - b);
    for (int bits : order) {
      World w = new World();
      for (int i = 0; i < n; i++) {
        Plain s = world.stones.get(i);
        w.stones.add((bits & 1 << i) != 0 ? Plain.of(0, 9, s.by) : s);
      }
      if (w.stands()) {
        return bits;
      }
    }
    return NONE;
  }

  long take() {
    int n = 0;
    World w = world.twin();
    while (!w.stands()) {
      w.stones.remove(w.stones.size() - 1);
      n++;
    }
    return n;
  }

  long turnBack() {
    World[] with = new World[world.stones.size()];
    for (int i = 0; i < with.length; i++) {
      Plain s = world.stones.get(i);
      World w = remade(world, i, s.kind(), s.figure, 1 - s.by);
      with[i] = w.spare()[0] > world.spare()[0] ? w : null;
    }
    return bestOf(with, w -> w.spare()[0]);
  }

  long runs(int what) {
    return ask(() -> {
      other(what, 2);
      StringBuilder by = new StringBuilder();
      int agreed = 0;
      for (int i = 0; i < world.stones.size(); i++) {
        Plain s = world.stones.get(i);
        by.append(s.by);
        if (i > 0 && world.stones.get(i - 1).kind() == s.kind() && world.stones.get(i - 1).by != s.by) {
          agreed++;
        }
      }
      Matcher m = Pattern.compile("0+|1+").matcher(by);
      int runs = 0;
      int longest = 0;
      while (m.find()) {
        runs++;
        longest = Math.max(longest, m.group().length());
      }
      return new int[] {runs, longest, agreed}[what];
    });
  }

  long kinds(int m) {
    return ask(() -> {
      isMason(m);
      int bits = 0;
      for (Plain s : world.stones) {
        bits |= s.by == m ? 1 << s.kind() : 0;
      }
      return bits;
    });
  }

  long keystone() {
    int best = NONE;
    for (int i = world.stones.size() - 1; i >= 0; i--) {
      if (best == NONE || world.stones.get(i).holds() >= world.stones.get(best).holds()) {
        best = i;
      }
    }
    return best;
  }

  long mortar() {
    int sum = 0;
    for (int j = 0; j + 1 < world.stones.size(); j++) {
      sum += world.holds(j) < world.load(j) ? world.load(j) - world.holds(j) : 0;
    }
    return sum;
  }

  long yields(int n) {
    return ask(() -> {
      in(n, 0, 60);
      int else0 = world.after(n).quarrels;
      int q0 = world.with(w -> w.spite[0] = 0).after(n).quarrels;
      int q1 = world.with(w -> w.spite[1] = 0).after(n).quarrels;
      if (q0 >= else0 && q1 >= else0) {
        return NONE;
      }
      return q1 < q0 ? 1 : 0;
    });
  }

  long best(int m, int n, int what) {
    return ask(1000000000, () -> {
      isMason(m);
      in(n, 0, 20);
      other(what, 1);
      World[] with = new World[6];
      for (int k = 0; k < 6; k++) {
        int style = k;
        with[k] = world.with(w -> w.style[m] = style).after(n);
      }
      int best = bestOf(with, w -> w.spare()[0]);
      return what == 0 ? best : with[best].spare()[0];
    });
  }

  long peace() {
    for (int n = 0; n <= 60; n++) {
      if (world.after(n).quarrels == world.after(n + 10).quarrels) {
        return n;
      }
    }
    return NONE;
  }

  long swap(int n) {
    return ask(() -> {
      in(n, 0, 60);
      World swapped = world.with(w -> w.style = new int[] {w.style[1], w.style[0]});
      return bit(swapped.after(n).stones.size() > world.after(n).stones.size());
    });
  }

  long two(int n) {
    return ask(() -> {
      in(n, 0, 30);
      int[][][] gain = new int[2][2][2];
      for (int a = 0; a < 2; a++) {
        for (int b = 0; b < 2; b++) {
          int[] spite = {a == 1 ? 9 : 0, b == 1 ? 9 : 0};
          World w = world.with(v -> v.spite = spite).after(n);
          for (int m = 0; m < 2; m++) {
            gain[a][b][m] = w.share(m) - w.quarrels + world.quarrels;
          }
        }
      }
      for (int pair : new int[] {0, 1, 10, 11}) {
        int a = pair / 10;
        int b = pair % 10;
        if (gain[1 - a][b][0] <= gain[a][b][0] && gain[a][1 - b][1] <= gain[a][b][1]) {
          return pair;
        }
      }
      return NONE;
    });
  }

  /** How likely it stands, as so many of t to the n. */
  private static long ways(World w, int n, int t) {
    if (n == 0) {
      return bit(w.stands());
    }
    World ill = w.with(v -> {
      v.day++;
      v.turn(0);
    });
    return ways(ill, n - 1, t) + (t - 1) * ways(w.after(1), n - 1, t);
  }

  private static long part(long above, long below, int part) {
    if (above == 0) {
      return part;
    }
    long g = BigInteger.valueOf(above).gcd(BigInteger.valueOf(below)).longValue();
    return (part == 0 ? above : below) / g;
  }

  long fever(int n, int t, int part) {
    return ask(4000000000000000000L, () -> {
      refuseIf(n < 0, -4);
      refuseIf(t < 2, -4);
      refuseIf(n > 7, -6);
      refuseIf(t > 20, -6);
      other(part, 1);
      return part(ways(world, n, t), BigInteger.valueOf(t).pow(n).longValue(), part);
    });
  }

  long mean(int part) {
    return ask(4000000000000000000L, () -> {
      other(part, 1);
      return part(world.stones.stream().mapToInt(s -> s.figure).sum(), world.stones.size(), part);
    });
  }

  private boolean fits(World w) {
    for (int j = 0; j < row.size(); j++) {
      if (j > w.stones.size() - 2 || w.holds(j) != row.get(j)) {
        return false;
      }
    }
    return true;
  }

  long whoLaid(int i) {
    return ask(() -> {
      isStone(i);
      Plain s = world.stones.get(i);
      return bit(fits(remade(world, i, s.kind(), s.figure, 0)))
          + 2 * bit(fits(remade(world, i, s.kind(), s.figure, 1)));
    });
  }

  long whatIs(int i, int what) {
    return ask(() -> {
      isStone(i);
      other(what, 1);
      Plain s = world.stones.get(i);
      int bits = 0;
      for (int v = 0; v < (what == 0 ? 6 : 10); v++) {
        World w = what == 0 ? remade(world, i, v, s.figure, s.by) : remade(world, i, s.kind(), v, s.by);
        bits += bit(fits(w)) << v;
      }
      return bits;
    });
  }

  long row(int v) {
    return ask(() -> {
      in(v, 0, 99);
      refuseIf(row.size() == 16, -6);
      row.add(v);
      return row.size();
    });
  }

  long judge() {
    List<Integer> told = row;
    row = new ArrayList<>();
    int[] leans = world.leans();
    for (int i = 0; i < told.size(); i++) {
      if (i >= leans.length || leans[i] + 50 != told.get(i)) {
        return i;
      }
    }
    return NONE;
  }

  long clear() {
    int n = row.size();
    row = new ArrayList<>();
    return n;
  }

  long lots(int n, int z, int what) {
    return ask(() -> {
      in(n, 1, 20);
      other(what, 1);
      int[] seed = {z};
      ToIntFunction<Integer> draw = m -> {
        seed[0] = (int) (seed[0] * 1664525L + 1013904223L);
        return (seed[0] & Integer.MAX_VALUE) / 256 % m;
      };
      int sum = 0;
      for (int i = 0; i < n; i++) {
        World w = world.twin();
        w.stones = new ArrayList<>();
        for (int m = 0; m < 2; m++) {
          w.style[m] = draw.applyAsInt(6);
          w.hand[m] = draw.applyAsInt(10);
        }
        w = w.after(9);
        sum += what == 0 ? bit(w.stands()) : w.quarrels - world.quarrels;
      }
      return sum;
    });
  }

  long image() {
    kept = world.twin();
    return kept.day;
  }

  long on() {
    return ask(() -> {
      refuseIf(kept == null, -3);
      world = kept.twin();
      return world.day;
    });
  }

  long count(int what) {
    int byNight = 0;
    int lacking = 0;
    int figures = 0;
    for (int i = 0; i < world.stones.size(); i++) {
      byNight |= world.stones.get(i).by << i;
      figures += world.stones.get(i).figure;
      if (i + 1 < world.stones.size() && world.holds(i) < world.load(i)) {
        lacking |= 1 << i;
      }
    }
    return switch (what) {
      case 0 -> world.stones.size();
      case 1 -> world.quarrels;
      case 2 -> world.day;
      case 3 -> figures;
      case 4 -> byNight;
      case 5 -> lacking;
      case 6 -> row.size();
      case 7 -> text.length();
      case 11, 12, 13, 14, 15, 16 -> refused[what - 10];
      default -> NONE;
    };
  }
}
