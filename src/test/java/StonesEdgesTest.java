/** Promises 4, 5, 7 to 9, 14 to 16, 24 to 27, 34: each boundary that the document names of the stones as they are. */
public final class StonesEdgesTest {
  private static final Check CHECK = new Check();
  // By KIND and FIGURE.
  private static final int[][] HOLDS = {{1, 2, 3, 4, 5, 6, 7, 8, 9, 10}, {1, 2, 3, 4, 5, 6, 7, 8, 9, 10},
    {0, 1, 2, 3, 4, 5, 6, 7, 8, 9}, {2, 4, 6, 8, 10, 12, 14, 16, 18, 20}, {5, 7, 9, 11, 13, 15, 17, 19, 21, 23},
    {0, 0, 1, 1, 2, 2, 3, 3, 4, 4}};
  private static final int[][] LEANS = {{0, 0, 0, 0, 0, 0, 0, 0, 0, 0}, {1, 1, 1, 1, 1, 1, 2, 2, 2, 2},
    {-1, -1, -1, -1, -1, -1, -2, -2, -2, -2}, {0, 0, 0, 0, 0, 0, 0, 0, 0, 0}, {0, 0, 0, 0, 0, 0, 0, 0, 0, 0},
    {-2, -2, -2, -2, -2, -2, -3, -3, -3, -3}};
  // Of joint 0, .. by how many stones there are.
  private static final int[][] LOADS = {{}, {}, {1}, {2, 1}, {2, 2, 1}, {3, 2, 2, 1}, {3, 3, 2, 2, 1},
    {4, 3, 3, 2, 2, 1}, {4, 4, 3, 3, 2, 2, 1}, {5, 4, 4, 3, 3, 2, 2, 1}, {5, 5, 4, 4, 3, 3, 2, 2, 1},
    {6, 5, 5, 4, 4, 3, 3, 2, 2, 1}, {6, 6, 5, 5, 4, 4, 3, 3, 2, 2, 1}};
  private static final String KINDS = "pewhkr";

  public static void main(String[] args) {
    eachKindAndFigure();
    leanUpToTheTwelfth();
    eachPairAtAJoint();
    loadIsCut();
    laysUpToTwelve();
    correctsFirstAndLast();
    takesOneAndAll();
    noStonesAndOneStand();
    aJointHoldsItsLoadOrMore();
    breaksAtTheFirstAndAtTheLast();
    leanOfSixAndOfSeven();
    leansAtTheFirstFarEnough();
    breaksAndLeansByThemselves();
    spareBelowNothingAndMost();
    spareOfSeveralTheLeast();
    leanOfNoneAndFarthest();
    runsOfNoneOneAndAll();
    longestFirstMiddleLast();
    agreedNeedsOneKindAndTwo();
    kindsOfNoneAndAll();
    keystoneOfNoneOneAndSeveral();
    mortarOfNoneAndMost();
    meanOfNoneNothingAndMost();
    CHECK.end("StonesEdgesTest");
  }

  private static BridgeByTwo of(String text) {
    return Told.bridge(text);
  }

  private static String twelve(String statement) {
    return Told.repeat(statement, 12);
  }

  private static void eachKindAndFigure() {
    for (int kind = 0; kind < 6; kind++) {
      for (int figure = 0; figure <= 9; figure++) {
        BridgeByTwo x = of("s" + KINDS.charAt(kind) + figure + "1;");
        String name = "" + KINDS.charAt(kind) + figure;
        CHECK.due(name + " kind", x.stone(0, 0), kind);
        CHECK.due(name + " figure", x.stone(0, 1), figure);
        CHECK.due(name + " by", x.stone(0, 2), 1);
        CHECK.due(name + " holds", x.stone(0, 3), HOLDS[kind][figure]);
        CHECK.due(name + " leans", x.stone(0, 4), LEANS[kind][figure]);
        CHECK.due(name + " lean there", x.stone(0, 5), LEANS[kind][figure]);
      }
    }
  }

  private static void leanUpToTheTwelfth() {
    BridgeByTwo east = of(twelve("se90;"));
    BridgeByTwo west = of(twelve("sr91;"));
    for (int i = 0; i < 12; i++) {
      CHECK.due("lean east at " + i, east.stone(i, 5), 2 * (i + 1));
      CHECK.due("lean west at " + i, west.stone(i, 5), -3 * (i + 1));
    }
    CHECK.due("no stone 12", east.stone(12, 5), 1000000001);
  }

  /** All pairs of stones by one and by two: of one kind 3 more, of two kinds by two 1 less, 0 at least. */
  private static void eachPairAtAJoint() {
    for (int pair = 0; pair < 60 * 60; pair++) {
      int one = pair / 60;
      int other = pair % 60;
      int lesser = Math.min(HOLDS[one / 10][one % 10], HOLDS[other / 10][other % 10]);
      boolean alike = one / 10 == other / 10;
      BridgeByTwo x = new BridgeByTwo();
      x.lays(one / 10, one % 10, 1);
      x.lays(other / 10, other % 10, 1);
      CHECK.due(pair + " by one", x.joint(0, 0), alike ? lesser + 3 : lesser);
      x.takes(1);
      x.lays(other / 10, other % 10, 0);
      CHECK.due(pair + " by two", x.joint(0, 0), alike ? lesser + 3 : Math.max(lesser - 1, 0));
    }
    CHECK.due("0 at least", of("sw00;sh91;").joint(0, 0), 0);
    CHECK.due("1 less 1", of("sp00;sh91;").joint(0, 0), 0);
    CHECK.due("the most", of("sk90;sk91;").joint(0, 0), 26);
  }

  private static void loadIsCut() {
    for (int stones = 0; stones <= 12; stones++) {
      BridgeByTwo x = new BridgeByTwo();
      for (int i = 0; i < stones; i++) {
        x.lays(3, 9, 0);
      }
      for (int joint = 0; joint < LOADS[stones].length; joint++) {
        CHECK.due("load " + joint + " of " + stones, x.joint(joint, 1), LOADS[stones][joint]);
      }
      CHECK.due("no joint behind the last of " + stones, x.joint(LOADS[stones].length, 1), -1);
    }
  }

  private static void laysUpToTwelve() {
    BridgeByTwo x = new BridgeByTwo();
    for (int i = 0; i < 12; i++) {
      CHECK.due("its number", x.lays(5 * (i % 2), 9 * (i % 2), i % 2), i);
    }
    CHECK.due("no room for a thirteenth", x.lays(0, 0, 0), -6);
    CHECK.due("nor of another kind", x.lays(5, 9, 1), -6);
    CHECK.due("12 stones", x.count(0), 12);
    CHECK.due("all figures", x.count(3), 54);
    x.takes(1);
    CHECK.due("room again", x.lays(1, 1, 1), 11);
  }

  private static void correctsFirstAndLast() {
    BridgeByTwo x = of("m0r99;m1k99;" + twelve("sp01;"));
    CHECK.due("it had the least", x.corrects(0, 5, 9), 0);
    CHECK.due("it had the greatest", x.corrects(0, 5, 9), 59);
    CHECK.due("it is so already", x.corrects(0, 0, 0), 59);
    CHECK.due("the last", x.corrects(11, 4, 7), 0);
    CHECK.due("the last had", x.corrects(11, 0, 1), 47);
    CHECK.due("no stone 12", x.corrects(12, 0, 0), -1);
    CHECK.due("who laid it stays", x.count(4), 4095);
    CHECK.due("no quarrels", x.count(1), 0);
    CHECK.due("figure of the last", x.count(3), 1);
  }

  private static void takesOneAndAll() {
    BridgeByTwo x = of(twelve("sp90;"));
    CHECK.due("none", x.takes(0), -4);
    CHECK.due("more than there are", x.takes(13), -6);
    CHECK.due("one", x.takes(1), 11);
    CHECK.due("all but one", x.takes(10), 1);
    CHECK.due("more than there are", x.takes(2), -6);
    CHECK.due("the only one", x.takes(1), 0);
    CHECK.due("of none", x.takes(1), -6);
    CHECK.due("none of none", x.takes(0), -4);
    CHECK.due("twelve", of(twelve("sp90;")).takes(12), 0);
    x = of("sp10;sp20;sp30;");
    x.takes(2);
    CHECK.due("the first is left", x.stone(0, 1), 1);
  }

  private static void stands(String name, String text, int stands, int breaks, int leans) {
    BridgeByTwo x = of(text);
    CHECK.due(name + ": stands", x.stands(0), stands);
    CHECK.due(name + ": breaks", x.stands(1), breaks);
    CHECK.due(name + ": leans", x.stands(2), leans);
  }

  private static void noStonesAndOneStand() {
    stands("none", "sp00;u1;", 1, -9, -9);
    stands("one that holds nothing", "sw00;", 1, -9, -9);
    stands("one that leans most", "sr90;", 1, -9, -9);
    stands("twelve", twelve("sp90;"), 1, -9, -9);
  }

  /** A west one with figure f among heavy keys holds f: beside each load, just it, and 1 more. */
  private static void aJointHoldsItsLoadOrMore() {
    for (int joint = 0; joint < 11; joint++) {
      int load = LOADS[12][joint];
      for (int held = load - 1; held <= load + 1; held++) {
        BridgeByTwo x = of(twelve("sk90;"));
        x.corrects(joint, 2, held);
        int breaks = held < load ? joint : -9;
        // The joint ahead of it holds as much.
        if (joint > 0 && held < LOADS[12][joint - 1]) {
          breaks = joint - 1;
        }
        CHECK.due("held " + held + " at joint " + joint, x.joint(joint, 0), held);
        CHECK.due("breaks", x.stands(1), breaks);
        CHECK.due("stands", x.stands(0), breaks == -9 ? 1 : 0);
      }
    }
  }

  private static void breaksAtTheFirstAndAtTheLast() {
    String ten = Told.repeat("sk90;", 10);
    stands("at the first", "sw50;" + ten + "sk90;", 0, 0, -9);
    stands("at the last", ten + "sk90;sw00;", 0, 10, -9);
    stands("at the last with just enough", ten + "sk90;sw10;", 1, -9, -9);
    stands("of two the first", "sk90;sw00;sk90;", 0, 0, -9);
  }

  private static void leanOfSixAndOfSeven() {
    stands("6 to the east", "se90;se90;se90;", 1, -9, -9);
    stands("7 to the east", "se90;se90;se90;se00;", 0, -9, 3);
    stands("6 to the west", "sw90;sw90;sw90;", 1, -9, -9);
    stands("7 to the west", "sw90;sw90;sw90;sw00;", 0, -9, 3);
    stands("6 to the west by rough ones", "sr90;sr90;", 1, -9, -9);
    stands("8 to the west by rough ones", "sr90;sr90;sr00;", 0, -9, 2);
    stands("6 and back", "se90;se90;se90;sp90;sw90;sw90;", 1, -9, -9);
  }

  private static void leansAtTheFirstFarEnough() {
    stands("7, 6, 7, 8", "se90;se90;se90;se50;sw50;se50;se50;", 0, -9, 3);
    stands("8, then back to 0", "se90;se90;se90;se90;sw90;sw90;sw90;sw90;", 0, -9, 3);
    stands("at the last stone of twelve", Told.repeat("sp90;", 8) + "se90;se90;se90;se90;", 0, -9, 11);
    stands("east, back, then west", "se90;sr90;sr90;sr90;", 0, -9, 3);
  }

  private static void breaksAndLeansByThemselves() {
    stands("both", "sw00;sk90;se90;se90;se90;se90;se90;", 0, 0, 5);
    stands("lean ahead of the break", "sr90;sr90;sr90;sp90;sw00;", 0, 3, 2);
  }

  private static void spare(String text, int spare, int at) {
    BridgeByTwo x = of(text);
    CHECK.due("spare of " + text, x.spare(0), spare);
    CHECK.due("spare at of " + text, x.spare(1), at);
  }

  private static void spareBelowNothingAndMost() {
    spare("sp00;u1;", 0, -9);
    spare("sw00;", 0, -9);
    spare("sk90;", 0, -9);
    spare("sk90;sk90;", 25, 0);
    spare("sp10;sk91;", 0, 0);
    spare("sw00;sk90;", -1, 0);
    spare("sw00;" + Told.repeat("sk90;", 11), -6, 0);
    spare(Told.repeat("sk90;", 11) + "sw00;", -1, 10);
  }

  private static void spareOfSeveralTheLeast() {
    spare(twelve("sp00;"), -2, 0);
    // Loads 2, 2, 1: 4 less 2, 4 less 2, 4 less 1.
    spare("sp00;sp00;sp00;sp00;", 2, 0);
    // w2 beside k9: 2 less 2 twice, then 26 less 1.
    spare("sk90;sw20;sk90;sk90;", 0, 0);
    // 26 less 2, 1 less 2, 1 less 1.
    spare("sk90;sk90;sw10;sk90;", -1, 1);
    // 26 less 2, 0 less 1.
    spare("sk90;sk90;sw00;", -1, 1);
  }

  private static void lean(String text, int end, int farthest) {
    BridgeByTwo x = of(text);
    CHECK.due("lean at the end of " + text, x.lean(0), end);
    CHECK.due("farthest lean of " + text, x.lean(1), farthest);
  }

  private static void leanOfNoneAndFarthest() {
    lean("sp00;u1;", 0, 0);
    lean("sp00;sh90;sk90;", 0, 0);
    lean(twelve("se90;"), 24, 24);
    lean(twelve("sr90;"), -36, 36);
    lean("sr90;se90;se00;", 0, 3);
    lean("se90;sr90;", -1, 2);
    lean("se90;sr90;sr90;", -4, 4);
    lean("se90;sw90;", 0, 2);
  }

  private static void runs(String text, int runs, int longest, int agreed) {
    BridgeByTwo x = of(text);
    CHECK.due("runs of " + text, x.runs(0), runs);
    CHECK.due("longest of " + text, x.runs(1), longest);
    CHECK.due("agreed of " + text, x.runs(2), agreed);
  }

  private static void runsOfNoneOneAndAll() {
    runs("sp00;u1;", 0, 0, 0);
    runs("sp00;", 1, 1, 0);
    runs("sp01;", 1, 1, 0);
    runs("sp00;sp00;", 1, 2, 0);
    runs("sp00;sp01;", 2, 1, 1);
    runs(twelve("sp00;"), 1, 12, 0);
    runs(twelve("sp01;"), 1, 12, 0);
    runs(Told.repeat("sp00;sp11;", 6), 12, 1, 11);
    runs(Told.repeat("sp00;sh01;", 6), 12, 1, 0);
    runs(Told.repeat("sp00;sh00;", 6), 1, 12, 0);
  }

  private static void longestFirstMiddleLast() {
    runs("sp00;sp00;sp00;sp01;sp00;", 3, 3, 2);
    runs("sp00;sp01;sp01;sp01;sp00;", 3, 3, 2);
    runs("sp00;sp01;sp00;sp00;sp00;", 3, 3, 2);
    runs("sp00;sp00;sp01;sp01;", 2, 2, 1);
  }

  private static void agreedNeedsOneKindAndTwo() {
    runs("sp00;sh00;sp01;sh01;", 2, 2, 0);
    runs("sh00;sp00;sp01;sh01;", 2, 2, 1);
    runs("sp00;sp91;", 2, 1, 1);
  }

  private static void kindsOfNoneAndAll() {
    BridgeByTwo x = of("sp01;se01;sw01;sh01;sk01;sr01;");
    CHECK.due("none by 0", x.kinds(0), 0);
    CHECK.due("all by 1", x.kinds(1), 63);
    x = of("sr00;sr90;sp01;sr00;");
    CHECK.due("the greatest kind, thrice", x.kinds(0), 32);
    CHECK.due("the least kind", x.kinds(1), 1);
    x = of(Told.repeat("sp00;", 11) + "sk00;");
    CHECK.due("the last stone's, too", x.kinds(0), 17);
  }

  private static void keystone(String text, int due) {
    CHECK.due("keystone of " + text, of(text).keystone(), due);
  }

  private static void keystoneOfNoneOneAndSeveral() {
    keystone("sp00;u1;", -9);
    keystone("sw00;", 0);
    keystone("sw00;sr00;sr10;", 0);
    keystone("sw00;sp00;sp00;", 1);
    keystone(twelve("sp50;"), 0);
    keystone(Told.repeat("sk80;", 11) + "sk90;", 11);
    // h9 holds 20, k7 19, k8 21.
    keystone("sh90;sk70;", 0);
    keystone("sh90;sk80;", 1);
  }

  private static void mortar(String text, int due, int lacking) {
    BridgeByTwo x = of(text);
    CHECK.due("mortar of " + text, x.mortar(), due);
    CHECK.due("joints that lack of " + text, x.count(5), lacking);
  }

  private static void mortarOfNoneAndMost() {
    mortar("sp00;u1;", 0, 0);
    mortar("sw00;", 0, 0);
    mortar("sw10;sk90;", 0, 0);
    mortar("sw00;sk90;", 1, 1);
    // Each joint holds 0 of 6, 6, 5, 5, 4, 4, 3, 3, 2, 2, 1.
    mortar(Told.repeat("sw00;sr01;", 6), 41, 2047);
    // 26 of 2, then 0 of 1: what is over does not help.
    mortar("sk90;sk90;sw00;", 1, 2);
    mortar(Told.repeat("sk90;", 11) + "sw00;", 1, 1024);
  }

  private static void mean(String text, int above, int below) {
    BridgeByTwo x = of(text);
    CHECK.due("mean above of " + text, x.mean(0), above);
    CHECK.due("mean below of " + text, x.mean(1), below);
  }

  private static void meanOfNoneNothingAndMost() {
    mean("sp00;u1;", 0, 1);
    mean("sp00;", 0, 1);
    mean(twelve("sp00;"), 0, 1);
    mean("sp90;", 9, 1);
    mean(twelve("sr90;"), 9, 1);
    mean(Told.repeat("sp00;", 11) + "sp10;", 1, 12);
    mean(Told.repeat("sp90;", 11) + "sp80;", 107, 12);
    mean(Told.repeat("sp00;", 10) + "sp90;sp90;", 3, 2);
    mean("sp10;sp10;sp10;sp00;", 3, 4);
  }
}
