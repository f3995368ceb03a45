/** Promises 28 to 33 and 40. */
public final class ForesightTest {
  private static final Check CHECK = new Check();

  public static void main(String[] args) {
    yields();
    best();
    peace();
    swap();
    two();
    fever();
    lots();
    CHECK.end("ForesightTest");
  }

  /** One stone, p5 of 1; styles h and p, spites 5; quarrels 5. */
  private static BridgeByTwo atFiveQuarrels() {
    BridgeByTwo x = new BridgeByTwo();
    x.styles(0, 3);
    x.days(3);
    return x;
  }

  private static void yields() {
    BridgeByTwo x = new BridgeByTwo();
    CHECK.due("no quarrels", x.yields(60), -9);
    x.styles(0, 3);
    CHECK.due("now", x.yields(0), -9);
    CHECK.due("mason 1 would not correct", x.yields(1), 1);
    // Behind 5 days there are 5; if 0 yields, too; if 1 does, 4.
    CHECK.due("five days", x.yields(5), 1);
    // p5 of 1 is corrected by 0, that by 1; either alone leaves one quarrel.
    x = Told.bridge("sp51;m0h55;");
    CHECK.due("alike", x.yields(1), 0);
    // 0 corrects h5 of 1 to p5, which is of 1's style, too.
    x = Told.bridge("sh51;m0p55;m1p55;");
    CHECK.due("mason 0", x.yields(1), 0);
    CHECK.due("nothing changed", x.mason(0, 2), 5);
  }

  private static void best() {
    BridgeByTwo x = new BridgeByTwo();
    CHECK.due("now", x.best(0, 0, 0), 0);
    CHECK.due("now", x.best(0, 0, 1), 0);
    x.spites(0, 0);
    x.spites(1, 0);
    CHECK.due("as the other", x.best(0, 1, 0), 0);
    CHECK.due("9 less 1", x.best(0, 1, 1), 8);
    x.styles(1, 3);
    CHECK.due("as the other, heavy", x.best(0, 1, 0), 3);
    CHECK.due("15 less 1", x.best(0, 1, 1), 14);
    CHECK.due("of the other one", x.best(1, 1, 0), 0);
    CHECK.due("9 less 1", x.best(1, 1, 1), 8);
    // Now, whatever his style: w0 holds 0 of 1.
    x = Told.bridge("sh90;sw00;");
    CHECK.due("below 0", x.best(0, 0, 1), -1);
    CHECK.due("which", x.best(0, 0, 0), 0);
    CHECK.due("nothing changed", x.mason(0, 0), 0);
  }

  private static void peace() {
    BridgeByTwo x = new BridgeByTwo();
    CHECK.due("at once", x.peace(), 0);
    x.styles(0, 3);
    CHECK.due("behind 3 days", x.peace(), 3);
    x.days(1);
    CHECK.due("behind 2 more", x.peace(), 2);
    CHECK.due("no refusal", x.count(14) + x.count(16), 0);
  }

  private static void swap() {
    // p5 of 1, styles h and p: both correct, one stone. Changed: 0 lays p, 1 corrects it: two.
    BridgeByTwo x = Told.bridge("sp51;m0h55;");
    CHECK.due("more", x.swap(1), 1);
    CHECK.due("now", x.swap(0), 0);
    CHECK.due("full with both", x.swap(60), 0);
    CHECK.due("nothing changed", x.mason(0, 0), 3);
    // The other way about there would be fewer.
    x = Told.bridge("sp51;m1h55;");
    CHECK.due("fewer", x.swap(1), 0);
    CHECK.due("alike", new BridgeByTwo().swap(3), 0);
  }

  private static void two() {
    BridgeByTwo x = new BridgeByTwo();
    CHECK.due("alike", x.two(30), 0);
    CHECK.due("now", x.two(0), 0);
    x.styles(0, 3);
    // With spite 9 mason 1 corrects: 1 less 1 quarrel; without it he lays: 1.
    CHECK.due("no spite", x.two(1), 0);
    // At 5 quarrels spite 0 makes 5 (he corrects), 9 makes 4 (he lays).
    x = atFiveQuarrels();
    x.takes(1);
    CHECK.due("only 1", x.two(1), 1);
    CHECK.due("both", atFiveQuarrels().two(1), 11);
    // Mason 1 finds his own style in what 0 leaves.
    x = atFiveQuarrels();
    x.styles(1, 3);
    CHECK.due("only 0", x.two(1), 10);
    CHECK.due("nothing changed", x.mason(0, 2), 5);
  }

  private static void fever() {
    // p0 by p0 holds 4: it stands with 8 stones or fewer, behind 5 days with 2 days of fever or more.
    BridgeByTwo x = Told.bridge("m0p05;m1p05;");
    CHECK.due("26 of 32", x.fever(5, 2, 0), 13);
    CHECK.due("26 of 32", x.fever(5, 2, 1), 16);
    CHECK.due("131 of 243", x.fever(5, 3, 0), 131);
    CHECK.due("131 of 243", x.fever(5, 3, 1), 243);
    CHECK.due("134 of 1280000000", x.fever(7, 20, 0), 67);
    CHECK.due("134 of 1280000000", x.fever(7, 20, 1), 640000000);
    CHECK.due("surely", x.fever(4, 7, 0), 1);
    CHECK.due("surely", x.fever(4, 7, 1), 1);
    CHECK.due("now", x.fever(0, 20, 0), 1);
    CHECK.due("now", x.fever(0, 20, 1), 1);
    CHECK.due("nothing changed", x.count(0) + x.count(2), 0);
    x = Told.bridge("sr00;sr00;sr00;sr00;");
    CHECK.due("never", x.fever(7, 2, 0), 0);
    CHECK.due("never", x.fever(7, 2, 1), 1);
    CHECK.due("not now", x.fever(0, 2, 0), 0);
    CHECK.due("not now", x.fever(0, 2, 1), 1);
  }

  private static void lots() {
    BridgeByTwo x = new BridgeByTwo();
    CHECK.due("five", x.lots(5, 7, 0), 1);
    CHECK.due("five", x.lots(5, 7, 1), 20);
    CHECK.due("twenty, from below 0", x.lots(20, -7, 0), 3);
    CHECK.due("twenty, from below 0", x.lots(20, -7, 1), 85);
    CHECK.due("the same seed again", x.lots(20, -7, 0), 3);
    CHECK.due("nothing changed", x.count(0) + x.count(1) + x.count(2) + x.mason(0, 0), 0);
    // At 5 quarrels neither corrects (5 and 5): none more. The stones that are there do not matter.
    x = atFiveQuarrels();
    CHECK.due("from the quarrels that are", x.lots(5, 7, 1), 0);
    int standing = x.lots(20, 99, 0);
    x.takes(1);
    CHECK.due("no stones at first", x.lots(20, 99, 0), standing);
  }
}
