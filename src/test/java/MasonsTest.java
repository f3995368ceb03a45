/** Promises 6, 10 to 13, 17, 18: the masons and how days go by. */
public final class MasonsTest {
  private static final Check CHECK = new Check();

  public static void main(String[] args) {
    traits();
    changing();
    daysWithoutQuarrels();
    daysWithQuarrels();
    whoCorrects();
    fullBridge();
    dayAndItsEnd();
    mostQuarrels();
    then();
    up();
    CHECK.end("MasonsTest");
  }

  private static void traits() {
    BridgeByTwo x = Told.bridge("m0k73;m1r09;sp00;sp01;sp01;");
    int[][] due = {{4, 7, 3, 1}, {5, 0, 9, 2}};
    for (int mason = 0; mason <= 1; mason++) {
      for (int what = 0; what <= 3; what++) {
        CHECK.due("mason " + mason + " " + what, x.mason(mason, what), due[mason][what]);
      }
    }
    CHECK.due("what 4", x.mason(0, 4), -2);
    CHECK.due("what -1", x.mason(0, -1), -2);
    CHECK.due("mason -1", x.mason(-1, 0), -1);
    CHECK.due("mason 2", x.mason(2, 9), -1);
  }

  private static void changing() {
    BridgeByTwo x = new BridgeByTwo();
    CHECK.due("style", x.styles(1, 4), 0);
    CHECK.due("style", x.styles(1, 2), 4);
    CHECK.due("style of 0", x.mason(0, 0), 0);
    CHECK.due("hand", x.hands(0, 9), 5);
    CHECK.due("hand", x.hands(0, 0), 9);
    CHECK.due("hand of 1", x.mason(1, 1), 5);
    CHECK.due("spite", x.spites(1, 0), 5);
    CHECK.due("spite", x.spites(1, 9), 0);
    CHECK.due("spite of 0", x.mason(0, 2), 5);
    CHECK.due("spite of 1", x.mason(1, 2), 9);
  }

  private static void daysWithoutQuarrels() {
    BridgeByTwo x = new BridgeByTwo();
    x.hands(1, 8);
    CHECK.due("one day", x.days(1), 2);
    CHECK.due("first by", x.stone(0, 2), 0);
    CHECK.due("first figure", x.stone(0, 1), 5);
    CHECK.due("second by", x.stone(1, 2), 1);
    CHECK.due("second figure", x.stone(1, 1), 8);
    CHECK.due("three days", x.days(3), 8);
    CHECK.due("quarrels", x.count(1), 0);
    CHECK.due("day", x.count(2), 4);
  }

  private static void daysWithQuarrels() {
    BridgeByTwo x = new BridgeByTwo();
    x.styles(0, 3);
    x.hands(1, 8);
    // 0 lays h5, 1 corrects it.
    CHECK.due("day 1", x.days(1), 1);
    CHECK.due("quarrels", x.count(1), 1);
    CHECK.due("kind", x.stone(0, 0), 0);
    CHECK.due("figure", x.stone(0, 1), 8);
    CHECK.due("by", x.stone(0, 2), 1);
    // 5 and quarrels 1, 2, 3, 4 are 5 or more: four more corrections.
    CHECK.due("day 3", x.days(2), 1);
    CHECK.due("quarrels", x.count(1), 5);
    // 5 and 5 modulo 10 are 0: both lay.
    CHECK.due("day 4", x.days(1), 3);
    CHECK.due("quarrels", x.count(1), 5);
    CHECK.due("stone 1", x.stone(1, 0), 3);
    CHECK.due("stone 2", x.stone(2, 0), 0);
  }

  private static void whoCorrects() {
    BridgeByTwo x = Told.bridge("m0h44;m1h44;sp51;d01;");
    CHECK.due("spite 4 does not correct", x.count(0), 3);
    x = Told.bridge("m0h45;m1h45;sp51;d01;");
    CHECK.due("spite 5 does; his style is not corrected", x.count(0), 2);
    CHECK.due("quarrels", x.count(1), 1);
    CHECK.due("with his hand", x.stone(0, 1), 4);
    CHECK.due("laid by him", x.stone(0, 2), 0);
    x = Told.bridge("m0h45;m1h45;sp50;d01;");
    CHECK.due("not his own", x.count(0), 3);
    CHECK.due("not his own", x.stone(0, 0), 0);
  }

  private static void fullBridge() {
    BridgeByTwo x = Told.bridge("m0h49;m1h49;" + Told.repeat("sp51;", 12));
    CHECK.due("he corrects without room", x.days(1), 12);
    CHECK.due("kind", x.stone(11, 0), 3);
    CHECK.due("quarrels", x.count(1), 1);
    CHECK.due("then nothing is done", x.days(5), 12);
    CHECK.due("quarrels", x.count(1), 1);
    CHECK.due("day", x.count(2), 6);
  }

  private static void dayAndItsEnd() {
    BridgeByTwo x = new BridgeByTwo();
    CHECK.due("days 0", x.days(0), -4);
    CHECK.due("days 61", x.days(61), -6);
    for (int i = 0; i < 16; i++) {
      x.days(60);
    }
    CHECK.due("day", x.count(2), 960);
    CHECK.due("to 1000", x.days(40), -6);
    CHECK.due("to 999", x.days(39), 12);
    CHECK.due("day", x.count(2), 999);
    CHECK.due("no more", x.days(1), -6);
    CHECK.due("in thought", x.then(60, 0), 12);
    CHECK.due("in thought", x.up(0), 0);
  }

  /** Spites are moved so that both go on correcting: 6 quarrels in 3 days. */
  private static void mostQuarrels() {
    BridgeByTwo x = new BridgeByTwo();
    x.styles(0, 3);
    x.days(1);
    int quarrels = 1;
    for (int i = 0; i < 167; i++) {
      x.spites(0, Math.floorMod(5 - quarrels, 10));
      x.spites(1, Math.floorMod(4 - quarrels, 10));
      x.days(3);
      quarrels += 6;
    }
    CHECK.due("quarrels", x.count(1), 999);
    CHECK.due("stones", x.count(0), 1);
    CHECK.due("day", x.count(2), 502);
    // 999 and 8 (of 0) or 7 (of 1) modulo 10 are 7 and 6: they go on correcting.
    CHECK.due("no more of them", x.then(5, 1), 999);
    CHECK.due("still correcting", x.then(5, 0), 1);
  }

  private static void then() {
    BridgeByTwo x = new BridgeByTwo();
    x.styles(0, 3);
    CHECK.due("stones", x.then(4, 0), 3);
    CHECK.due("quarrels", x.then(4, 1), 5);
    CHECK.due("stands", x.then(4, 2), 1);
    CHECK.due("now", x.then(0, 0), 0);
    CHECK.due("60", x.then(60, 0), 12);
    CHECK.due("nothing changed", x.count(0) + x.count(1) + x.count(2), 0);
    // East ones with figure 5, both: lean 1 a stone, too far at the 7th.
    x = Told.bridge("m0e55;m1e55;");
    CHECK.due("3 days", x.then(3, 2), 1);
    CHECK.due("4 days", x.then(4, 2), 0);
  }

  private static void up() {
    BridgeByTwo x = new BridgeByTwo();
    CHECK.due("up", x.up(0), 6);
    CHECK.due("falls", x.up(1), -9);
    // p0 by p0 holds 4; the load is 5 with 9 stones: behind 5 days there are 10.
    x = Told.bridge("m0p05;m1p05;");
    CHECK.due("up", x.up(0), -9);
    CHECK.due("falls", x.up(1), 5);
    x = Told.bridge("sh90;sw00;");
    CHECK.due("it does not stand now", x.up(1), 0);
    x = Told.bridge(Told.repeat("sp50;", 12));
    CHECK.due("it is up now", x.up(0), 0);
  }
}
