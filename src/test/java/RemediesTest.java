/** Promises 19 to 23. */
public final class RemediesTest {
  private static final Check CHECK = new Check();

  public static void main(String[] args) {
    next();
    mend();
    fewest();
    take();
    turnBack();
    CHECK.end("RemediesTest");
  }

  private static void next() {
    CHECK.due("alike: the least", new BridgeByTwo().next(0), 0);
    // r0 and r5: 0 and 3, less 1; else 0 less 1.
    CHECK.due("its own kind", Told.bridge("sr00;").next(1), 5);
    // Lean -6: a rough one would be best, but leans too far, as a west one; the others are alike.
    CHECK.due("not too far", Told.bridge("sr00;sr00;sr00;").next(0), 0);
    // Lean 8: a rough one with figure 5 makes it 6.
    CHECK.due("back to 6", Told.bridge("se60;se60;se60;se60;").next(0), 5);
    CHECK.due("too far with each", Told.bridge("sr00;sr00;sr00;sr00;").next(0), -9);
    // h0 and h5: 2 and 3, less 1; else 2 less 1.
    CHECK.due("heavy to heavy", Told.bridge("sh00;").next(0), 3);
    // Loads of 13 stones: 6 over at joint 0 (13 less 7); p5 at h9 has 5 over, h5 14.
    BridgeByTwo full = Told.bridge(Told.repeat("sp90;", 11) + "sh90;");
    CHECK.due("without room, too", full.next(0), 3);
    CHECK.due("nothing changed", full.count(0), 12);
    // p3 and h3 have 4 less 2; h3 has 3 over or more with each.
    CHECK.due("joint 0 is the least with each", Told.bridge("sp30;sh30;").next(1), 0);
    // w1 and w5: 1 and 3, less 1; else 1 less 1.
    CHECK.due("west to west", Told.bridge("sw10;").next(0), 2);
    CHECK.due("mason 2", new BridgeByTwo().next(2), -1);
    CHECK.due("mason -1", new BridgeByTwo().next(-1), -1);
  }

  private static void mend() {
    CHECK.due("it stands", Told.bridge("sp50;sp50;").mend(), -9);
    CHECK.due("none", new BridgeByTwo().mend(), -9);
    // Lean 8 at stone 3: the first as a plain one makes it 6.
    CHECK.due("lean", Told.bridge("se90;se90;se90;se90;").mend(), 0);
    // Stone 1 as p0, e0 holds 1 of 2, as h0 with 3 more 5.
    BridgeByTwo x = Told.bridge("sh90;sw00;sh90;");
    CHECK.due("stone 1 heavy", x.mend(), 13);
    CHECK.due("nothing changed", x.stone(1, 0), 2);
    // k0 holds 5, enough for 2 less 1 for two masons; h0 2 and 3.
    CHECK.due("who laid it stays", Told.bridge("sk90;sw01;sk90;").mend(), 14);
    CHECK.due("two lack", Told.bridge("sh90;sw00;sp90;sw00;sh90;").mend(), -9);
  }

  private static void fewest() {
    CHECK.due("none", new BridgeByTwo().fewest(), 0);
    CHECK.due("it stands", Told.bridge("sr00;sr00;").fewest(), 0);
    CHECK.due("the middle one", Told.bridge("sh90;sw00;sh90;").fewest(), 2);
    CHECK.due("two", Told.bridge("sh90;sw00;sp90;sw00;sh90;").fewest(), 10);
    CHECK.due("of several the least", Told.bridge("se90;se90;se90;se90;").fewest(), 1);
    // Each leans 2: no more than three may stay, and the joints hold 10 at least.
    BridgeByTwo x = Told.bridge(Told.repeat("se90;", 12));
    CHECK.due("nine of twelve", x.fewest(), 511);
    CHECK.due("nothing changed", x.stone(0, 0), 1);
  }

  private static void take() {
    CHECK.due("none", new BridgeByTwo().take(), 0);
    CHECK.due("it stands", Told.bridge("sp50;sp50;").take(), 0);
    CHECK.due("lean", Told.bridge("se90;se90;se90;se90;").take(), 1);
    BridgeByTwo x = Told.bridge("sh90;sw00;sh90;");
    CHECK.due("two", x.take(), 2);
    CHECK.due("nothing changed", x.count(0), 3);
  }

  private static void turnBack() {
    CHECK.due("none", new BridgeByTwo().turnBack(), -9);
    CHECK.due("one", Told.bridge("sp50;").turnBack(), -9);
    CHECK.due("alike: the least", Told.bridge("sp50;sh01;").turnBack(), 0);
    CHECK.due("not more", Told.bridge("sp50;sh00;").turnBack(), -9);
    CHECK.due("alike is not more", Told.bridge("sp50;sp01;").turnBack(), -9);
    // p5 h0 w1 of 0, 1, 0: -1, -1; stone 1 turned: 0, 0; stone 0 or 2 leaves one.
    BridgeByTwo x = Told.bridge("sp50;sh01;sw10;");
    CHECK.due("the middle one", x.turnBack(), 1);
    CHECK.due("nothing changed", x.stone(1, 2), 1);
  }
}
