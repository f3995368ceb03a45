/** Promises 41 to 43. */
public final class ImageTest {
  private static final Check CHECK = new Check();

  public static void main(String[] args) {
    withoutImage();
    allIsAsThen();
    notInIt();
    imageStays();
    count();
    CHECK.end("ImageTest");
  }

  private static void withoutImage() {
    BridgeByTwo x = Told.bridge("sp50;d03;");
    CHECK.due("none", x.on(), -3);
    CHECK.due("counted", x.count(13), 1);
    CHECK.due("nothing changed", x.count(2), 3);
  }

  private static void allIsAsThen() {
    BridgeByTwo x = Told.bridge("m0k73;m1r29;sh41;d02;");
    int[] then = state(x);
    CHECK.due("day", x.image(), 2);
    Told.tell(x, "d09;u9;m0p00;m1p00;c0e0;");
    CHECK.due("back", x.on(), 2);
    same("as then", state(x), then);
    x.takes(x.count(0));
    x.on();
    same("as then, with stones again", state(x), then);
    x.lays(5, 9, 1);
    x.on();
    same("as then, without what came", state(x), then);
  }

  private static void notInIt() {
    BridgeByTwo x = new BridgeByTwo();
    x.row(1);
    x.letter('s');
    x.joint(0, 0);
    x.image();
    x.row(2);
    x.letter('p');
    x.joint(0, 0);
    x.on();
    CHECK.due("row", x.count(6), 2);
    CHECK.due("letters", x.count(7), 2);
    CHECK.due("refusals", x.count(11), 2);
  }

  private static void imageStays() {
    BridgeByTwo x = Told.bridge("sp50;d01;");
    x.image();
    x.days(4);
    CHECK.due("once", x.on(), 1);
    x.days(5);
    CHECK.due("again", x.on(), 1);
    x.days(6);
    CHECK.due("another", x.image(), 7);
    x.days(1);
    CHECK.due("from the other", x.on(), 7);
  }

  private static int[] state(BridgeByTwo x) {
    int[] state = new int[200];
    int at = 0;
    for (int what = 0; what <= 5; what++) {
      state[at++] = x.count(what);
    }
    for (int i = 0; i < x.count(0); i++) {
      for (int what = 0; what <= 2; what++) {
        state[at++] = x.stone(i, what);
      }
    }
    for (int mason = 0; mason <= 1; mason++) {
      for (int what = 0; what <= 3; what++) {
        state[at++] = x.mason(mason, what);
      }
    }
    return state;
  }

  private static void same(String name, int[] got, int[] due) {
    for (int i = 0; i < due.length; i++) {
      CHECK.due(name + " " + i, got[i], due[i]);
    }
  }

  private static void count() {
    BridgeByTwo x = Told.bridge("sp51;sh90;sw01;sh91;d01;");
    // The day: 0 corrects h9 of 1 to p5; 1 lays p5 (that is of his style).
    int[] due = {5, 1, 1, 5 + 9 + 5 + 5, 1 + 4 + 16, 2 + 4, 0, 0};
    for (int what = 0; what < due.length; what++) {
      CHECK.due("count " + what, x.count(what), due[what]);
    }
    // Joints: 1 less 2, 1 less 1.
    CHECK.due("joint 0 lacks, joint 1 has just enough", Told.bridge("sh90;sw10;sp90;").count(5), 1);
    CHECK.due("both lack", Told.bridge("sh90;sw00;sp90;").count(5), 3);
    int[] none = {-1, 8, 9, 10, 17, Integer.MAX_VALUE, Integer.MIN_VALUE};
    for (int what : none) {
      CHECK.due("count " + what, x.count(what), -9);
    }
    x.row(1);
    x.letter('s');
    CHECK.due("row", x.count(6), 1);
    CHECK.due("letters", x.count(7), 1);
    for (int what = 11; what <= 16; what++) {
      CHECK.due("no refusals", x.count(what), 0);
    }
  }
}
