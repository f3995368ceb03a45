/** Promises 4, 5, 7 to 9, 14 to 16, 24 to 27, 34: the stones as they are. */
public final class StonesTest {
  private static final Check CHECK = new Check();

  public static void main(String[] args) {
    kinds();
    leanThere();
    joints();
    laying();
    correcting();
    taking();
    standing();
    spare();
    lean();
    runs();
    kindsOfOne();
    keystone();
    mortar();
    mean();
    CHECK.end("StonesTest");
  }

  private static void kinds() {
    int[] figures = {0, 1, 5, 6, 9};
    int[][] holds = {{1, 2, 6, 7, 10}, {1, 2, 6, 7, 10}, {0, 1, 5, 6, 9}, {2, 4, 12, 14, 20}, {5, 7, 15, 17, 23},
      {0, 0, 2, 3, 4}};
    int[][] leans = {{0, 0, 0, 0, 0}, {1, 1, 1, 2, 2}, {-1, -1, -1, -2, -2}, {0, 0, 0, 0, 0}, {0, 0, 0, 0, 0},
      {-2, -2, -2, -3, -3}};
    for (int kind = 0; kind < 6; kind++) {
      for (int i = 0; i < figures.length; i++) {
        BridgeByTwo x = new BridgeByTwo();
        x.lays(kind, figures[i], 1);
        String name = "kind " + kind + ", figure " + figures[i] + ": ";
        CHECK.due(name + "kind", x.stone(0, 0), kind);
        CHECK.due(name + "figure", x.stone(0, 1), figures[i]);
        CHECK.due(name + "by", x.stone(0, 2), 1);
        CHECK.due(name + "holds", x.stone(0, 3), holds[kind][i]);
        CHECK.due(name + "leans", x.stone(0, 4), leans[kind][i]);
        CHECK.due(name + "lean there", x.stone(0, 5), leans[kind][i]);
      }
    }
  }

  private static void leanThere() {
    BridgeByTwo x = Told.bridge("se90;se50;sr60;sh90;");
    int[] due = {2, 3, 0, 0};
    for (int i = 0; i < due.length; i++) {
      CHECK.due("lean at " + i, x.stone(i, 5), due[i]);
    }
  }

  private static void joints() {
    CHECK.due("one kind, one mason", Told.bridge("sp50;sp70;").joint(0, 0), 9);
    CHECK.due("one kind, two masons", Told.bridge("sp70;sp51;").joint(0, 0), 9);
    CHECK.due("two kinds, one mason", Told.bridge("sp51;sh01;").joint(0, 0), 2);
    CHECK.due("two kinds, two masons", Told.bridge("sp50;sh01;").joint(0, 0), 1);
    CHECK.due("0 at least", Told.bridge("sw00;sp01;").joint(0, 0), 0);
    CHECK.due("load of two", Told.bridge("sp50;sp70;").joint(0, 1), 1);
    CHECK.due("load of three", Told.bridge("sp50;sp70;sp00;").joint(0, 1), 2);
    BridgeByTwo x = Told.bridge(Told.repeat("sp50;", 12));
    int[] loads = {6, 6, 5, 5, 4, 4, 3, 3, 2, 2, 1};
    for (int i = 0; i < loads.length; i++) {
      CHECK.due("load " + i, x.joint(i, 1), loads[i]);
    }
    CHECK.due("no joint 11", x.joint(11, 1), -1);
    CHECK.due("no joint -1", x.joint(-1, 1), -1);
  }

  private static void laying() {
    BridgeByTwo x = new BridgeByTwo();
    for (int i = 0; i < 12; i++) {
      CHECK.due("lays " + i, x.lays(i % 6, i % 10, i % 2), i);
    }
    CHECK.due("no room", x.lays(0, 0, 0), -6);
    CHECK.due("stones", x.count(0), 12);
    CHECK.due("stone 11", x.stone(11, 0) * 100 + x.stone(11, 1) * 10 + x.stone(11, 2), 511);
  }

  private static void correcting() {
    BridgeByTwo x = Told.bridge("sk71;sp00;");
    CHECK.due("had", x.corrects(0, 1, 9), 47);
    CHECK.due("kind", x.stone(0, 0), 1);
    CHECK.due("figure", x.stone(0, 1), 9);
    CHECK.due("by", x.stone(0, 2), 1);
    CHECK.due("other stays", x.corrects(1, 5, 0), 0);
    CHECK.due("quarrels", x.count(1), 0);
  }

  private static void taking() {
    BridgeByTwo x = Told.bridge("sk71;sp00;se10;");
    CHECK.due("takes 0", x.takes(0), -4);
    CHECK.due("takes 4", x.takes(4), -6);
    CHECK.due("takes 2", x.takes(2), 1);
    CHECK.due("the first is left", x.stone(0, 0), 4);
    CHECK.due("takes 1", x.takes(1), 0);
    CHECK.due("takes of none", x.takes(1), -6);
  }

  private static void standing() {
    BridgeByTwo x = new BridgeByTwo();
    CHECK.due("none stands", x.stands(0), 1);
    x = Told.bridge(Told.repeat("se50;", 6));
    CHECK.due("lean 6 stands", x.stands(0), 1);
    CHECK.due("leans nowhere", x.stands(2), -9);
    x.lays(1, 5, 0);
    CHECK.due("lean 7 does not", x.stands(0), 0);
    CHECK.due("leans at 6", x.stands(2), 6);
    CHECK.due("breaks nowhere", x.stands(1), -9);
    x = Told.bridge("sr00;sr00;sr00;");
    CHECK.due("lean -6 stands", x.stands(0), 1);
    x.lays(2, 5, 0);
    CHECK.due("leans at 3 to the west", x.stands(2), 3);
    x = Told.bridge("sh90;sw00;sh90;");
    CHECK.due("breaks", x.stands(0), 0);
    CHECK.due("breaks at 0", x.stands(1), 0);
    x = Told.bridge("sp50;sp50;sw00;");
    CHECK.due("breaks at 1", x.stands(1), 1);
    // Leaning back does not help: the first that leans too far counts.
    x = Told.bridge("se90;se90;se90;se90;sw90;sw90;");
    CHECK.due("leans at 3, back at the end", x.stands(2), 3);
    CHECK.due("does not stand", x.stands(0), 0);
  }

  private static void spare() {
    BridgeByTwo x = Told.bridge("sp50;");
    CHECK.due("none", x.spare(0), 0);
    CHECK.due("none", x.spare(1), -9);
    // Both joints: 9; loads 2, 1.
    x = Told.bridge("sp50;sp50;sp50;");
    CHECK.due("spare", x.spare(0), 7);
    CHECK.due("spare at", x.spare(1), 0);
    x = Told.bridge("sh90;sw00;sh90;");
    CHECK.due("spare below 0", x.spare(0), -2);
    CHECK.due("at", x.spare(1), 0);
    // Loads 2, 2, 1: 9 - 2, 9 - 2, 9 - 1.
    x = Told.bridge("sp50;sp50;sp50;sp50;");
    CHECK.due("of several the first", x.spare(1), 0);
    x = Told.bridge("sh90;sh10;sp20;sp20;");
    // h9 h1: 4 + 3 - 2 = 5; h1 p2: 3 - 2 = 1; p2 p2: 3 + 3 - 1 = 5.
    CHECK.due("spare 1", x.spare(0), 1);
    CHECK.due("at 1", x.spare(1), 1);
  }

  private static void lean() {
    BridgeByTwo x = new BridgeByTwo();
    CHECK.due("without", x.lean(0), 0);
    CHECK.due("without", x.lean(1), 0);
    x = Told.bridge("se90;se90;sw90;sw90;");
    CHECK.due("end", x.lean(0), 0);
    CHECK.due("farthest", x.lean(1), 4);
    x = Told.bridge("sr00;sr00;sr00;sr00;se00;");
    CHECK.due("end west", x.lean(0), -7);
    CHECK.due("farthest west", x.lean(1), 8);
  }

  private static void runs() {
    BridgeByTwo x = new BridgeByTwo();
    for (int what = 0; what <= 2; what++) {
      CHECK.due("without", x.runs(what), 0);
    }
    x = Told.bridge("sp00;sp10;sp21;se31;se41;se50;");
    CHECK.due("runs", x.runs(0), 3);
    CHECK.due("longest", x.runs(1), 3);
    CHECK.due("agreed", x.runs(2), 2);
    CHECK.due("agreed at joint 0", Told.bridge("sp00;sp01;").runs(2), 1);
    x = Told.bridge("sp01;sp11;sp21;sp31;");
    CHECK.due("runs", x.runs(0), 1);
    CHECK.due("longest", x.runs(1), 4);
    CHECK.due("agreed", x.runs(2), 0);
  }

  private static void kindsOfOne() {
    BridgeByTwo x = Told.bridge("sp00;sr10;sp21;sk31;sk41;");
    CHECK.due("of 0", x.kinds(0), 1 + 32);
    CHECK.due("of 1", x.kinds(1), 1 + 16);
    CHECK.due("of 2", x.kinds(2), -1);
    CHECK.due("of none", new BridgeByTwo().kinds(1), 0);
  }

  private static void keystone() {
    CHECK.due("none", new BridgeByTwo().keystone(), -9);
    CHECK.due("one", Told.bridge("sr00;").keystone(), 0);
    // 10, 20, 20, 19.
    CHECK.due("of several the least", Told.bridge("sp90;sh90;sh91;sk70;").keystone(), 1);
    CHECK.due("the last", Told.bridge("sp90;sh90;sh91;sk90;").keystone(), 3);
  }

  private static void mortar() {
    CHECK.due("none", new BridgeByTwo().mortar(), 0);
    // Holds 0, 0; loads 2, 1.
    CHECK.due("both", Told.bridge("sh90;sw00;sh90;").mortar(), 3);
    // Holds 9, 0; loads 2, 1: what is over does not help.
    CHECK.due("one", Told.bridge("sp50;sp50;sw00;").mortar(), 1);
  }

  private static void mean() {
    BridgeByTwo x = new BridgeByTwo();
    CHECK.due("none above", x.mean(0), 0);
    CHECK.due("none below", x.mean(1), 1);
    x = Told.bridge("sp00;sp00;");
    CHECK.due("0 above", x.mean(0), 0);
    CHECK.due("0 below", x.mean(1), 1);
    x = Told.bridge("sp40;sp60;sp00;sp00;");
    CHECK.due("10 by 4 above", x.mean(0), 5);
    CHECK.due("10 by 4 below", x.mean(1), 2);
    x = Told.bridge("sp70;sp70;sp70;");
    CHECK.due("21 by 3 above", x.mean(0), 7);
    CHECK.due("21 by 3 below", x.mean(1), 1);
  }
}
