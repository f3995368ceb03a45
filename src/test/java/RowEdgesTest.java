/** Promises 35 to 39: each boundary that the document names of a told row. */
public final class RowEdgesTest {
  private static final Check CHECK = new Check();

  public static void main(String[] args) {
    leastAndGreatestNumbers();
    sixteenNumbers();
    rowBeginsAnew();
    whoLaidWithoutRow();
    whoLaidByEach();
    whoLaidWithoutSuchJoint();
    whoLaidFirstAndLast();
    whoLaidByAllOfIt();
    whatIsWithoutRow();
    whatIsEachKind();
    whatIsEachFigure();
    whatIsWithoutSuchJoint();
    whatIsFirstAndLast();
    judgedWithoutRow();
    judgedWithoutStones();
    judgedEachPlace();
    judgedTwelveAndMore();
    judgedLeastAndGreatestLean();
    judgedRowHasNone();
    clearedNoneAndAll();
    CHECK.end("RowEdgesTest");
  }

  private static BridgeByTwo with(String text, int... row) {
    BridgeByTwo x = Told.bridge(text);
    tell(x, row);
    return x;
  }

  private static void tell(BridgeByTwo x, int... row) {
    for (int v : row) {
      x.row(v);
    }
  }

  private static void leastAndGreatestNumbers() {
    BridgeByTwo x = new BridgeByTwo();
    CHECK.due("below the least", x.row(-1), -4);
    CHECK.due("above the greatest", x.row(100), -6);
    CHECK.due("none came", x.count(6), 0);
    CHECK.due("the least", x.row(0), 1);
    CHECK.due("the greatest", x.row(99), 2);
    CHECK.due("two", x.count(6), 2);
  }

  private static void sixteenNumbers() {
    BridgeByTwo x = new BridgeByTwo();
    for (int n = 1; n <= 16; n++) {
      CHECK.due("a number more", x.row(50), n);
    }
    CHECK.due("no room for a 17th", x.row(50), -6);
    CHECK.due("below the least without room", x.row(-1), -4);
    CHECK.due("above the greatest without room", x.row(100), -6);
    CHECK.due("sixteen", x.count(6), 16);
  }

  private static void rowBeginsAnew() {
    BridgeByTwo x = with("se00;", 51, 99);
    x.clear();
    CHECK.due("the first behind clear", x.row(51), 1);
    CHECK.due("all of it is so", x.judge(), -9);
    CHECK.due("the first behind judge", x.row(52), 1);
    CHECK.due("it is not so", x.judge(), 0);
  }

  private static void whoLaidWithoutRow() {
    CHECK.due("either", Told.bridge("sp00;").whoLaid(0), 3);
    CHECK.due("either", Told.bridge(Told.repeat("sp00;", 12)).whoLaid(11), 3);
    CHECK.due("no stone", new BridgeByTwo().whoLaid(0), -1);
    CHECK.due("no such stone", Told.bridge("sp00;").whoLaid(1), -1);
    CHECK.due("no such stone", Told.bridge("sp00;").whoLaid(-1), -1);
  }

  private static void whoLaidByEach() {
    // p5 of one beside h0 of one holds 2, of two 1; p5 beside p5 holds 9 by whomever.
    CHECK.due("by 0", with("sp50;sh00;", 2).whoLaid(0), 1);
    CHECK.due("by 1", with("sp50;sh00;", 1).whoLaid(0), 2);
    CHECK.due("by either", with("sp50;sp50;", 9).whoLaid(0), 3);
    CHECK.due("by neither", with("sp50;sh00;", 3).whoLaid(0), 0);
    // 0 at least: r0 beside p0.
    CHECK.due("nothing by either", with("sr00;sp00;", 0).whoLaid(1), 3);
  }

  private static void whoLaidWithoutSuchJoint() {
    CHECK.due("one stone, one number", with("sp00;", 0).whoLaid(0), 0);
    CHECK.due("two stones, two numbers", with("sp50;sp50;", 9, 0).whoLaid(0), 0);
    BridgeByTwo x = Told.bridge(Told.repeat("sp50;", 12));
    for (int i = 0; i < 11; i++) {
      x.row(9);
    }
    CHECK.due("all joints of twelve", x.whoLaid(11), 3);
    x.row(9);
    CHECK.due("one more than there are", x.whoLaid(11), 0);
    x.row(0);
    x.row(0);
    x.row(0);
    x.row(0);
    CHECK.due("sixteen", x.whoLaid(0), 0);
    CHECK.due("the row stays", x.count(6), 16);
  }

  private static void whoLaidFirstAndLast() {
    String text = "sh00;" + Told.repeat("sp50;", 10) + "sh00;";
    BridgeByTwo x = with(text, 2, 9, 9, 9, 9, 9, 9, 9, 9, 9, 2);
    CHECK.due("the first by 0", x.whoLaid(0), 1);
    CHECK.due("the last by 0", x.whoLaid(11), 1);
    x = with(text, 1, 9, 9, 9, 9, 9, 9, 9, 9, 9, 2);
    CHECK.due("the first by 1", x.whoLaid(0), 2);
    CHECK.due("the last by neither: the first joint is not so", x.whoLaid(11), 0);
    x = with(text, 2, 9, 9, 9, 9, 9, 9, 9, 9, 9, 1);
    CHECK.due("the last by 1", x.whoLaid(11), 2);
    CHECK.due("who laid it stays", x.stone(11, 2), 0);
  }

  private static void whoLaidByAllOfIt() {
    // By 0 joint 0 holds 2, by 1 joint 1 does.
    BridgeByTwo x = with("sp50;sh00;sp51;", 2, 1);
    CHECK.due("by 0", x.whoLaid(1), 1);
    x.clear();
    tell(x, 1, 2);
    CHECK.due("by 1", x.whoLaid(1), 2);
    x.clear();
    tell(x, 2, 2);
    CHECK.due("by neither", x.whoLaid(1), 0);
    CHECK.due("if the last one is by 0", x.whoLaid(2), 1);
  }

  private static void whatIsWithoutRow() {
    CHECK.due("all kinds", Told.bridge("sp00;").whatIs(0, 0), 63);
    CHECK.due("all figures", Told.bridge("sp00;").whatIs(0, 1), 1023);
    CHECK.due("no stone", new BridgeByTwo().whatIs(0, 0), -1);
    CHECK.due("no such stone", Told.bridge("sp00;").whatIs(1, 0), -1);
    CHECK.due("no such stone", Told.bridge("sp00;").whatIs(-1, 1), -1);
    CHECK.due("another what", Told.bridge("sp00;").whatIs(0, 2), -2);
    CHECK.due("another what", Told.bridge("sp00;").whatIs(0, -1), -2);
  }

  private static void whatIsEachKind() {
    // A stone with figure 3 of the same one beside k9, which holds 23: 4, 4, 3, 8, 11 and 3, 1.
    int[] holds = {4, 4, 3, 8, 14, 1};
    int[] kinds = {1 + 2, 1 + 2, 4, 8, 16, 32};
    for (int i = 0; i < 6; i++) {
      CHECK.due("kinds that hold " + holds[i], with("sp30;sk90;", holds[i]).whatIs(0, 0), kinds[i]);
      CHECK.due("the same behind it", with("sk90;sp30;", holds[i]).whatIs(1, 0), kinds[i]);
    }
    CHECK.due("none holds 2", with("sp30;sk90;", 2).whatIs(0, 0), 0);
    CHECK.due("none holds 99", with("sp30;sk90;", 99).whatIs(0, 0), 0);
  }

  private static void whatIsEachFigure() {
    for (int figure = 0; figure <= 9; figure++) {
      CHECK.due("plain ones that hold " + (figure + 1), with("sp30;sk90;", figure + 1).whatIs(0, 1), 1 << figure);
      CHECK.due("rough ones that hold " + figure / 2, with("sr30;sk90;", figure / 2).whatIs(0, 1), 3 << figure / 2 * 2);
    }
    CHECK.due("a plain one holds 1 at least", with("sp30;sk90;", 0).whatIs(0, 1), 0);
    CHECK.due("a plain one holds 10 at most", with("sp30;sk90;", 11).whatIs(0, 1), 0);
    CHECK.due("w0 and w1 of two hold nothing", with("sw31;sk90;", 0).whatIs(0, 1), 3);
  }

  private static void whatIsWithoutSuchJoint() {
    CHECK.due("one stone, kinds", with("sp00;", 0).whatIs(0, 0), 0);
    CHECK.due("one stone, figures", with("sp00;", 0).whatIs(0, 1), 0);
    BridgeByTwo x = with("sp50;sk90;", 6, 0);
    CHECK.due("two stones, kinds", x.whatIs(0, 0), 0);
    CHECK.due("two stones, figures", x.whatIs(0, 1), 0);
    CHECK.due("the row stays", x.count(6), 2);
  }

  private static void whatIsFirstAndLast() {
    String text = Told.repeat("sp50;", 12);
    int[] row = {9, 9, 9, 9, 9, 9, 9, 9, 9, 9, 9};
    BridgeByTwo x = with(text, row);
    CHECK.due("the first is plain", x.whatIs(0, 0), 1);
    CHECK.due("the first has 5 or more", x.whatIs(0, 1), 1023 - 31);
    CHECK.due("the last is plain", x.whatIs(11, 0), 1);
    CHECK.due("the last has 5 or more", x.whatIs(11, 1), 1023 - 31);
    CHECK.due("no stone 12", x.whatIs(12, 0), -1);
    row[10] = 8;
    x = with(text, row);
    CHECK.due("the last has 4", x.whatIs(11, 1), 16);
    CHECK.due("the first has none: the last joint is not so", x.whatIs(0, 1), 0);
    CHECK.due("nothing changed", x.count(3), 60);
  }

  private static void judged(String text, int due, int... row) {
    BridgeByTwo x = with(text, row);
    CHECK.due("judge of " + text, x.judge(), due);
    CHECK.due("the row has none then", x.count(6), 0);
  }

  private static void judgedWithoutRow() {
    judged("sp00;u1;", -9);
    judged("se90;", -9);
    CHECK.due("nothing is refused", new BridgeByTwo().judge(), -9);
  }

  private static void judgedWithoutStones() {
    judged("sp00;u1;", 0, 50);
    judged("sp00;u1;", 0, 0);
    judged("sp00;u1;", 0, 50, 50);
  }

  private static void judgedEachPlace() {
    // 2, 1, 1, -2.
    judged("se90;sw00;sp00;sr90;", -9, 52, 51, 51, 48);
    judged("se90;sw00;sp00;sr90;", 0, 51, 51, 51, 48);
    judged("se90;sw00;sp00;sr90;", 1, 52, 52, 51, 48);
    judged("se90;sw00;sp00;sr90;", 2, 52, 51, 50, 48);
    judged("se90;sw00;sp00;sr90;", 3, 52, 51, 51, 47);
    judged("se90;sw00;sp00;sr90;", 1, 52, 50, 50, 50);
    judged("se90;sw00;sp00;sr90;", -9, 52, 51);
    judged("se90;sw00;sp00;sr90;", 4, 52, 51, 51, 48, 48);
    judged("se90;sw00;sp00;sr90;", 4, 52, 51, 51, 48, 50);
    judged("se90;sw00;sp00;sr90;", 0, 2, 1, 1, 0);
  }

  private static void judgedTwelveAndMore() {
    int[] row = new int[16];
    java.util.Arrays.fill(row, 50);
    judged(Told.repeat("sp00;", 12), -9, java.util.Arrays.copyOf(row, 12));
    judged(Told.repeat("sp00;", 12), 12, java.util.Arrays.copyOf(row, 13));
    judged(Told.repeat("sp00;", 12), 12, row);
    row[11] = 51;
    judged(Told.repeat("sp00;", 11) + "se00;", -9, java.util.Arrays.copyOf(row, 12));
    judged(Told.repeat("sp00;", 12), 11, row);
  }

  private static void judgedLeastAndGreatestLean() {
    judged(Told.repeat("sr90;", 12), -9, 47, 44, 41, 38, 35, 32, 29, 26, 23, 20, 17, 14);
    judged(Told.repeat("se90;", 12), -9, 52, 54, 56, 58, 60, 62, 64, 66, 68, 70, 72, 74);
    judged(Told.repeat("sr90;", 12), 11, 47, 44, 41, 38, 35, 32, 29, 26, 23, 20, 17, 15);
  }

  private static void judgedRowHasNone() {
    BridgeByTwo x = with("se90;", 52);
    CHECK.due("so", x.judge(), -9);
    CHECK.due("none then", x.clear(), 0);
    tell(x, 51);
    CHECK.due("not so", x.judge(), 0);
    CHECK.due("none then", x.clear(), 0);
    CHECK.due("as of none", x.judge(), -9);
    CHECK.due("either by a row of none", x.whoLaid(0), 3);
  }

  private static void clearedNoneAndAll() {
    BridgeByTwo x = new BridgeByTwo();
    CHECK.due("none", x.clear(), 0);
    for (int n = 0; n < 16; n++) {
      x.row(n);
    }
    CHECK.due("sixteen", x.clear(), 16);
    CHECK.due("none then", x.clear(), 0);
    CHECK.due("room again", x.row(1), 1);
    CHECK.due("one", x.clear(), 1);
  }
}
