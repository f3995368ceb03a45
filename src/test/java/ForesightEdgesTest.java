import java.util.List;

/** Promises 28 to 33 and 40: each boundary that the document names of days to come, of odds and of lots. */
public final class ForesightEdgesTest {
  private static final Check CHECK = new Check();
  private static final String KINDS = "pewhkr";
  // What a stone of a kind with figure 5 holds.
  private static final int[] HOLDS = {6, 6, 5, 12, 15, 2};

  public static void main(String[] args) {
    yieldsNowAndBehindSixty();
    yieldsOnlyForFewer();
    yieldsAlike();
    bestNow();
    bestOfEachStyle();
    bestBehindTwenty();
    bestBelowNothing();
    peaceAtOnceAndLatest();
    peaceAtMostQuarrels();
    swapNowAndBehindSixty();
    swapOnlyForMore();
    twoNowAndBehindThirty();
    twoEachPair();
    twoFromEachQuarrels();
    twoAtMostQuarrels();
    feverNow();
    feverLeastAndGreatestOdds();
    feverSurelyAndNever();
    feverOnEachDayByItself();
    lotsOneAndTwenty();
    lotsWrapAround();
    lotsFromWhatIs();
    lotsAtMostQuarrels();
    nothingChanges();
    CHECK.end("ForesightEdgesTest");
  }

  private static void yields(String text, int n, int due) {
    CHECK.due("yields " + n + " of " + text, Told.bridge(text).yields(n), due);
  }

  private static void yieldsNowAndBehindSixty() {
    String first = "sh51;m0p55;m1p55;";
    yields(first, 0, -9);
    yields(first, 1, 0);
    yields(first, 60, 0);
    String second = Told.repeat("sp50;", 11) + "sh50;m0p55;m1p55;";
    yields(second, 0, -9);
    yields(second, 1, 1);
    yields(second, 60, 1);
    BridgeByTwo x = Told.bridge(first);
    CHECK.due("below the least", x.yields(-1), -4);
    CHECK.due("above the greatest", x.yields(61), -6);
  }

  private static void yieldsOnlyForFewer() {
    CHECK.due("no quarrels at all", new BridgeByTwo().yields(60), -9);
    // As it is there are 5 behind 60 days (then both lay); with one of them mild they go on to 14 or 13.
    yields("m0h55;", 5, 1);
    yields("m0h55;", 60, -9);
    // Mild already.
    yields("m0p50;m1p50;sh51;", 60, -9);
  }

  private static void yieldsAlike() {
    // Either leaves one quarrel of two.
    yields("sp51;m0h55;", 1, 0);
  }

  private static void best(BridgeByTwo x, int mason, int n, int style, int spare) {
    CHECK.due("best for " + mason + " behind " + n, x.best(mason, n, 0), style);
    CHECK.due("best spare for " + mason + " behind " + n, x.best(mason, n, 1), spare);
  }

  private static void bestNow() {
    best(new BridgeByTwo(), 0, 0, 0, 0);
    best(Told.bridge("m0k55;sp90;sh90;"), 0, 0, 0, 9);
    best(Told.bridge("m0k55;sp90;sh90;"), 1, 0, 0, 9);
  }

  /** Both lay one stone: two of one kind hold most. */
  private static void bestOfEachStyle() {
    for (int style = 0; style < 6; style++) {
      best(Told.bridge("m0p50;m1" + KINDS.charAt(style) + "50;"), 0, 1, style, HOLDS[style] + 3 - 1);
      best(Told.bridge("m0" + KINDS.charAt(style) + "50;m1p50;"), 1, 1, style, HOLDS[style] + 3 - 1);
    }
  }

  private static void bestBehindTwenty() {
    for (int style = 0; style < 6; style++) {
      best(Told.bridge("m0p50;m1" + KINDS.charAt(style) + "50;"), 0, 20, style, HOLDS[style] + 3 - 6);
    }
    BridgeByTwo x = new BridgeByTwo();
    CHECK.due("below the least", x.best(0, -1, 0), 1000000004);
    CHECK.due("above the greatest", x.best(0, 21, 0), 1000000006);
    CHECK.due("nobody", x.best(2, 0, 0), 1000000001);
    CHECK.due("another what", x.best(1, 20, 2), 1000000002);
  }

  private static void bestBelowNothing() {
    best(Told.bridge("sw00;" + Told.repeat("sk90;", 11)), 0, 20, 0, -6);
    best(Told.bridge("sw00;" + Told.repeat("sk90;", 2)), 1, 0, 0, -2);
  }

  private static void peaceAtOnceAndLatest() {
    CHECK.due("at once", new BridgeByTwo().peace(), 0);
    CHECK.due("at once, full", Told.bridge(Told.repeat("sp90;", 12)).peace(), 0);
    // Quarrels 2, 4, 5, then no more.
    CHECK.due("behind 3 days", Told.bridge("m0h55;").peace(), 3);
    BridgeByTwo x = Told.bridge("m0k04;m1r59;");
    CHECK.due("latest", x.peace(), 14);
    CHECK.so("more behind 14 days than behind 13", x.then(14, 1) > x.then(13, 1));
    CHECK.due("no more behind 24", x.then(24, 1), x.then(14, 1));
  }

  private static void peaceAtMostQuarrels() {
    BridgeByTwo x = Told.quarrelling(998);
    x.takes(x.count(0));
    x.lays(1, 0, 1);
    x.spites(0, 7);
    x.spites(1, 7);
    CHECK.due("behind a day there are 999", x.peace(), 1);
    x.days(1);
    CHECK.due("999 are not more", x.peace(), 0);
    CHECK.due("nobody makes them fewer", x.yields(60), -9);
  }

  private static void swap(String text, int n, int due) {
    CHECK.due("swap " + n + " of " + text, Told.bridge(text).swap(n), due);
  }

  private static void swapNowAndBehindSixty() {
    // p5 of 1; styles h and p: both correct; changed: 0 lays p, 1 corrects that.
    String text = "sp51;m0h55;";
    swap(text, 0, 0);
    swap(text, 1, 1);
    swap(text, 60, 0);
    CHECK.due("below the least", new BridgeByTwo().swap(-1), -4);
    CHECK.due("above the greatest", new BridgeByTwo().swap(61), -6);
    // At 999 quarrels they correct each other's for ever; changed the first one is of mason 0's style, and he lays.
    BridgeByTwo x = Told.quarrelling(999);
    x.takes(x.count(0));
    x.lays(3, 0, 1);
    x.spites(0, 7);
    x.spites(1, 7);
    CHECK.due("behind 60 days, one and two", x.swap(60), 1);
    CHECK.due("that is so", x.then(60, 0), 1);
    x.styles(0, 3);
    x.styles(1, 0);
    CHECK.due("that is so", x.then(60, 0), 2);
    CHECK.due("the other way about", x.swap(60), 0);
  }

  private static void swapOnlyForMore() {
    CHECK.due("alike", new BridgeByTwo().swap(3), 0);
    swap("sp51;m1h55;", 1, 0);
    BridgeByTwo x = Told.bridge("sp51;m0h55;");
    x.swap(1);
    CHECK.due("style of 0 stays", x.mason(0, 0), 3);
    CHECK.due("style of 1 stays", x.mason(1, 0), 0);
  }

  private static void twoNowAndBehindThirty() {
    BridgeByTwo x = Told.bridge("m0h55;m1p55;");
    CHECK.due("now", x.two(0), 0);
    CHECK.due("below the least", x.two(-1), -4);
    CHECK.due("above the greatest", x.two(31), -6);
    CHECK.due("behind 30 days, one style", Told.bridge("m0p55;m1p55;").two(30), 0);
  }

  /** What each has, asked of objects on which it is really done. */
  private static int gain(BridgeByTwo x, int mason, int first, int second, int n) {
    x.on();
    int quarrels = x.count(1);
    x.spites(0, 9 * first);
    x.spites(1, 9 * second);
    if (n > 0) {
      x.days(n);
    }
    return x.mason(mason, 3) - (x.count(1) - quarrels);
  }

  private static int settled(BridgeByTwo x, int n) {
    for (int pair = 0; pair < 4; pair++) {
      int first = pair / 2;
      int second = pair % 2;
      if (gain(x, 0, first, second, n) >= gain(x, 0, 1 - first, second, n)
          && gain(x, 1, first, second, n) >= gain(x, 1, first, 1 - second, n)) {
        return 10 * first + second;
      }
    }
    return -9;
  }

  private static void two(BridgeByTwo x, int n, int due) {
    x.image();
    CHECK.due("two " + n, x.two(n), due);
    CHECK.due("two " + n + ", done", settled(x, n), due);
    x.on();
  }

  private static void twoEachPair() {
    // At 5 quarrels spite 0 makes 5 (he corrects), 9 makes 4 (he lays).
    BridgeByTwo x = Told.bridge("m0h55;d03;");
    two(x, 1, 11);
    two(x, 30, 0);
    x.takes(1);
    two(x, 1, 1);
    x = Told.bridge("m0h55;d03;m1h55;");
    two(x, 1, 10);
    two(Told.bridge("m0h55;"), 1, 0);
    two(Told.bridge("m0h55;"), 30, 0);
  }

  /** As it is really done, from each sum of spite and quarrels, with room and without. */
  private static void twoFromEachQuarrels() {
    int[] ns = {1, 2, 3, 6, 30};
    for (int quarrels = 0; quarrels <= 20; quarrels++) {
      for (int n : ns) {
        for (int stones = 0; stones <= 12; stones += 3) {
          BridgeByTwo x = Told.quarrelling(quarrels);
          x.takes(Math.max(x.count(0), 1));
          for (int i = 0; i < stones; i++) {
            x.lays(1 + 2 * (i % 2), i % 10, (i + n) % 2);
          }
          x.image();
          int due = settled(x, n);
          x.on();
          CHECK.due("two " + n + ", " + quarrels + " quarrels, " + stones + " stones", x.two(n), due);
        }
      }
    }
  }

  private static void twoAtMostQuarrels() {
    BridgeByTwo x = Told.quarrelling(999);
    x.takes(x.count(0));
    x.lays(1, 0, 1);
    x.image();
    int due = settled(x, 3);
    x.on();
    CHECK.due("two, with quarrels that are no more", x.two(3), due);
  }

  private static void fever(BridgeByTwo x, int n, int t, long above, long below) {
    CHECK.due("fever " + n + " " + t + " above", x.fever(n, t, 0), above);
    CHECK.due("fever " + n + " " + t + " below", x.fever(n, t, 1), below);
  }

  private static void feverNow() {
    fever(new BridgeByTwo(), 0, 2, 1, 1);
    fever(new BridgeByTwo(), 0, 20, 1, 1);
    fever(Told.bridge("sw00;sk90;"), 0, 2, 0, 1);
    fever(Told.bridge("sw00;sk90;"), 0, 20, 0, 1);
  }

  /** One p0 and seven days of mason 0 are eight of them, just not too many: mason 1 must be ill on each day. */
  private static void feverLeastAndGreatestOdds() {
    BridgeByTwo x = Told.bridge("sp00;m0p00;m1p00;");
    fever(x, 7, 20, 1, 1280000000);
    fever(x, 7, 2, 1, 128);
    fever(x, 7, 3, 1, 2187);
    // Six days may leave one more stone.
    fever(x, 6, 2, 7, 64);
    fever(x, 6, 20, (6 * 19 + 1) / 5, 64000000 / 5);
    CHECK.due("n below", x.fever(-1, 2, 0), 4000000000000000004L);
    CHECK.due("t below", x.fever(0, 1, 0), 4000000000000000004L);
    CHECK.due("n above", x.fever(8, 2, 0), 4000000000000000006L);
    CHECK.due("t above", x.fever(0, 21, 0), 4000000000000000006L);
    CHECK.due("part 2", x.fever(0, 2, 2), 4000000000000000002L);
    CHECK.due("part -1", x.fever(0, 2, -1), 4000000000000000002L);
  }

  private static void feverSurelyAndNever() {
    fever(new BridgeByTwo(), 7, 20, 1, 1);
    fever(new BridgeByTwo(), 7, 2, 1, 1);
    fever(Told.bridge("sr90;sr90;sr90;"), 7, 20, 0, 1);
    fever(Told.bridge("sr90;sr90;sr90;"), 1, 2, 0, 1);
  }

  /** The last of twelve holds nothing, until mason 1 corrects it on the first day on which he is not ill. */
  private static void feverOnEachDayByItself() {
    BridgeByTwo x = Told.bridge(Told.repeat("sp91;", 11) + "sw00;");
    fever(x, 1, 2, 1, 2);
    fever(x, 1, 20, 19, 20);
    fever(x, 2, 2, 3, 4);
    fever(x, 7, 2, 127, 128);
    fever(x, 7, 20, 1279999999, 1280000000);
    // Least terms: 3 of 9 ways, told as 1 by 3; mason 0 is never ill.
    x = Told.bridge(Told.repeat("sp00;", 7) + "m0p00;m1p00;");
    fever(x, 1, 3, 1, 3);
    fever(x, 2, 3, 0, 1);
    // Of two days one of fever at least leaves nine stones or more; both leave eight.
    x = Told.bridge(Told.repeat("sp00;", 6) + "m0p00;m1p00;");
    fever(x, 1, 9, 1, 1);
    fever(x, 2, 4, 1, 16);
  }

  /** Draws by numbers that do not wrap around. */
  private static final class Draws {
    private long z;

    Draws(int seed) {
      z = seed & 0xffffffffL;
    }

    int below(int m) {
      z = (z * 1664525L + 1013904223L) % 4294967296L;
      return (int) (z % 2147483648L / 256 % m);
    }
  }

  /** LOTS as they are really done, over the image of the object that is asked. */
  private static void lots(BridgeByTwo x, int n, int z) {
    x.image();
    int standing = x.lots(n, z, 0);
    int more = x.lots(n, z, 1);
    Draws draws = new Draws(z);
    for (int i = 0; i < n; i++) {
      x.on();
      if (x.count(0) > 0) {
        x.takes(x.count(0));
      }
      for (int mason = 0; mason <= 1; mason++) {
        x.styles(mason, draws.below(6));
        x.hands(mason, draws.below(10));
      }
      int quarrels = x.count(1);
      x.days(9);
      standing -= x.stands(0);
      more -= x.count(1) - quarrels;
    }
    x.on();
    CHECK.due("lots " + n + " " + z + " stand", standing, 0);
    CHECK.due("lots " + n + " " + z + " quarrels", more, 0);
  }

  private static void lotsOneAndTwenty() {
    for (int z = -40; z <= 40; z++) {
      lots(new BridgeByTwo(), 1, z);
    }
    lots(new BridgeByTwo(), 20, 0);
    lots(new BridgeByTwo(), 20, 1);
    BridgeByTwo x = new BridgeByTwo();
    CHECK.due("below the least", x.lots(0, 1, 0), -4);
    CHECK.due("above the greatest", x.lots(21, 1, 0), -6);
    CHECK.due("another what", x.lots(20, 1, 2), -2);
    CHECK.due("another what", x.lots(20, 1, -1), -2);
    CHECK.due("the seed stays", x.lots(20, 1, 1), x.lots(20, 1, 1));
  }

  private static void lotsWrapAround() {
    int[] seeds = {Integer.MIN_VALUE, Integer.MIN_VALUE + 1, -1, Integer.MAX_VALUE - 1, Integer.MAX_VALUE, 1 << 30,
      -1013904223, 1013904223, 123456789, -987654321};
    for (int z : seeds) {
      lots(new BridgeByTwo(), 20, z);
      lots(new BridgeByTwo(), 7, z);
    }
  }

  private static void lotsFromWhatIs() {
    // Stones, styles, hands that are do not matter; spites and quarrels do.
    lots(Told.bridge("m0k90;m1r99;d02;sh91;"), 20, 77);
    lots(Told.bridge("m0k99;m1r90;d02;sh91;"), 20, 77);
    for (int q = 0; q <= 10; q++) {
      lots(Told.quarrelling(q), 12, q);
    }
    BridgeByTwo mild = Told.bridge("m0p50;m1p50;");
    CHECK.due("mild ones do not quarrel", mild.lots(20, 3, 1), 0);
  }

  private static void lotsAtMostQuarrels() {
    lots(Told.quarrelling(993), 9, 11);
    BridgeByTwo x = Told.quarrelling(999);
    x.spites(0, 7);
    x.spites(1, 7);
    CHECK.due("none more than 999", x.lots(20, 11, 1), 0);
    x = Told.quarrelling(998);
    x.spites(0, 7);
    x.spites(1, 7);
    // Mason 1 corrects the first stone, unless both drew one style.
    CHECK.due("one more each, but for like styles", x.lots(3, 11, 1), differing(3, 11));
  }

  private static int differing(int n, int z) {
    Draws draws = new Draws(z);
    int differing = 0;
    for (int i = 0; i < n; i++) {
      int first = draws.below(6);
      draws.below(10);
      differing += first != draws.below(6) ? 1 : 0;
      draws.below(10);
    }
    return differing;
  }

  private static void nothingChanges() {
    BridgeByTwo x = Told.bridge("m0h38;m1e77;sk41;sr20;d02;");
    x.row(9);
    x.letter('s');
    List<Long> state = Seen.state(x);
    x.yields(60);
    x.best(1, 20, 0);
    x.best(1, 20, 1);
    x.peace();
    x.swap(60);
    x.two(30);
    x.fever(7, 20, 0);
    x.fever(7, 20, 1);
    x.lots(20, -1, 0);
    x.lots(20, -1, 1);
    x.up(0);
    x.up(1);
    x.then(60, 2);
    CHECK.same("the state", Seen.state(x), state);
    CHECK.due("the row", x.count(6), 1);
    CHECK.due("the letters", x.count(7), 1);
    CHECK.due("no image", x.on(), -3);
    CHECK.same("no refusals but that", Seen.refusals(x), List.of(0L, 0L, 1L, 0L, 0L, 0L));
  }
}
