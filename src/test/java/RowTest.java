/** Promises 35 to 39. */
public final class RowTest {
  private static final Check CHECK = new Check();

  public static void main(String[] args) {
    whoLaid();
    whatIs();
    row();
    judge();
    clear();
    CHECK.end("RowTest");
  }

  private static void whoLaid() {
    BridgeByTwo x = Told.bridge("sp50;sh01;");
    CHECK.due("no row: either", x.whoLaid(0), 3);
    x.row(1);
    CHECK.due("0 by 0", x.whoLaid(0), 1);
    CHECK.due("1 by 1", x.whoLaid(1), 2);
    CHECK.due("the row stays", x.count(6), 1);
    CHECK.due("nothing changed", x.stone(0, 2), 0);
    x.row(0);
    CHECK.due("no such joint", x.whoLaid(0), 0);
    // One kind: it holds 9 by whomever.
    x = Told.bridge("sp50;sp51;");
    x.row(9);
    CHECK.due("either", x.whoLaid(0), 3);
    x = Told.bridge("sp50;sp51;");
    x.row(8);
    CHECK.due("neither", x.whoLaid(0), 0);
    // Joints 2 and 1: stone 1 alone decides of 2, 0; the last one is out of the row.
    x = Told.bridge("sp50;sh00;sp51;sp51;");
    x.row(2);
    CHECK.due("stone 1 by 0", x.whoLaid(1), 1);
    CHECK.due("stone 3 either", x.whoLaid(3), 3);
    x.row(2);
    CHECK.due("joint 1 is not so", x.whoLaid(1), 0);
    CHECK.due("stone 2 by 0", x.whoLaid(2), 1);
    CHECK.due("stone 4", x.whoLaid(4), -1);
    CHECK.due("stone -1", x.whoLaid(-1), -1);
  }

  private static void whatIs() {
    BridgeByTwo x = Told.bridge("sp50;sh01;");
    CHECK.due("no row: each kind", x.whatIs(0, 0), 63);
    CHECK.due("no row: each figure", x.whatIs(0, 1), 1023);
    x.row(1);
    // As a heavy one it would be of one kind: 2 and 3.
    CHECK.due("all but heavy", x.whatIs(0, 0), 63 - 8);
    CHECK.due("all but 0", x.whatIs(0, 1), 1022);
    // Stone 1, figure 0, at p5: p 1 and 3; e 1, w 0, r 0 less 1; h 2, k 5 less 1.
    CHECK.due("heavy alone", x.whatIs(1, 0), 8);
    CHECK.due("figure 0 alone", x.whatIs(1, 1), 1);
    CHECK.due("the row stays", x.count(6), 1);
    CHECK.due("nothing changed", x.stone(1, 0), 3);
    x.corrects(0, 3, 9);
    // h9 and h0: 2 and 3; as another kind 2 less 1.
    CHECK.due("anew", x.whatIs(0, 0), 63 - 8);
    CHECK.due("heavy at heavy holds 3 at least", x.whatIs(0, 1), 0);
    x.row(1);
    CHECK.due("no such joint", x.whatIs(0, 0), 0);
    CHECK.due("no such joint", x.whatIs(0, 1), 0);
    CHECK.due("what 2", x.whatIs(0, 2), -2);
    CHECK.due("what -1", x.whatIs(0, -1), -2);
    CHECK.due("stone 2", x.whatIs(2, 2), -1);
  }

  private static void row() {
    BridgeByTwo x = new BridgeByTwo();
    CHECK.due("-1", x.row(-1), -4);
    CHECK.due("100", x.row(100), -6);
    CHECK.due("0", x.row(0), 1);
    CHECK.due("99", x.row(99), 2);
    for (int n = 3; n <= 16; n++) {
      CHECK.due("one more", x.row(n), n);
    }
    CHECK.due("17", x.row(1), -6);
    CHECK.due("-1 without room", x.row(-1), -4);
    CHECK.due("how many", x.count(6), 16);
  }

  private static void judge() {
    BridgeByTwo x = Told.bridge("se90;sw90;sr00;");
    CHECK.due("none", x.judge(), -9);
    judged(x, -9, 52, 50, 48);
    judged(x, -9, 52);
    judged(x, 0, 51, 50, 48);
    judged(x, 1, 52, 51, 48);
    judged(x, 2, 52, 50, 47);
    judged(x, 3, 52, 50, 48, 48);
    judged(x, 3, 52, 50, 48, 50);
    judged(new BridgeByTwo(), 0, 50);
    CHECK.due("nothing is refused", x.count(11) + x.count(12) + x.count(14) + x.count(16), 0);
  }

  private static void judged(BridgeByTwo x, int due, int... row) {
    for (int v : row) {
      x.row(v);
    }
    CHECK.due("judge", x.judge(), due);
    CHECK.due("the row has none", x.count(6), 0);
    CHECK.due("no row any more", x.judge(), -9);
  }

  private static void clear() {
    BridgeByTwo x = new BridgeByTwo();
    CHECK.due("none", x.clear(), 0);
    x.row(5);
    x.row(6);
    CHECK.due("two", x.clear(), 2);
    CHECK.due("none", x.count(6), 0);
    CHECK.due("begins anew", x.row(7), 1);
  }
}
