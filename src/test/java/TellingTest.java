/** Promises 1 to 3. */
public final class TellingTest {
  private static final Check CHECK = new Check();

  public static void main(String[] args) {
    newObject();
    letters();
    statements();
    allComesBehindWhatIs();
    firstKindOfFault();
    secondKindOfFault();
    daysInText();
    withAFaultNothingComes();
    CHECK.end("TellingTest");
  }

  private static void newObject() {
    BridgeByTwo x = new BridgeByTwo();
    for (int what = 0; what <= 7; what++) {
      CHECK.due("new count " + what, x.count(what), 0);
    }
    for (int mason = 0; mason <= 1; mason++) {
      CHECK.due("new style", x.mason(mason, 0), 0);
      CHECK.due("new hand", x.mason(mason, 1), 5);
      CHECK.due("new spite", x.mason(mason, 2), 5);
    }
  }

  private static void letters() {
    BridgeByTwo x = new BridgeByTwo();
    CHECK.due("letter 0", x.letter(0), 1);
    CHECK.due("letter 255", x.letter(255), 2);
    CHECK.due("letter -1", x.letter(-1), -4);
    CHECK.due("letter 256", x.letter(256), -6);
    for (int n = 3; n <= 96; n++) {
      CHECK.due("letter s", x.letter('s'), n);
    }
    CHECK.due("letter 97", x.letter('s'), -6);
    CHECK.due("letter -1 without room", x.letter(-1), -4);
    CHECK.due("letters", x.count(7), 96);
    CHECK.due("refused -6", x.count(16), 2);
    CHECK.due("refused -4", x.count(14), 2);
  }

  private static void statements() {
    BridgeByTwo x = new BridgeByTwo();
    CHECK.due("all statements", Told.tell(x, "sp50;sk31;se91;c1w7;m1k73;u1;d01;"), 7);
    CHECK.due("letters are no more", x.count(7), 0);
    // p5 by 0, w7 by 1; then a day: 0 corrects w7 to p5 (5 and no quarrels), 1 lays k7 (3 and 1 are below 5).
    CHECK.due("stones", x.count(0), 3);
    CHECK.due("stone 0 kind", x.stone(0, 0), 0);
    CHECK.due("stone 1 kind", x.stone(1, 0), 0);
    CHECK.due("stone 1 figure", x.stone(1, 1), 5);
    CHECK.due("stone 1 by", x.stone(1, 2), 0);
    CHECK.due("quarrels", x.count(1), 1);
    CHECK.due("day", x.count(2), 1);
    CHECK.due("style of 1", x.mason(1, 0), 4);
    CHECK.due("hand of 1", x.mason(1, 1), 7);
    CHECK.due("spite of 1", x.mason(1, 2), 3);
    CHECK.due("96 letters", Told.tell(new BridgeByTwo(), Told.repeat("m0p55;", 16)), 16);
    x = new BridgeByTwo();
    CHECK.due("each kind", Told.tell(x, "sp00;se11;sw20;sh31;sk40;sr51;"), 6);
    for (int i = 0; i < 6; i++) {
      CHECK.due("kind", x.stone(i, 0), i);
      CHECK.due("figure", x.stone(i, 1), i);
      CHECK.due("by", x.stone(i, 2), i % 2);
    }
    CHECK.due("who laid it stays", Told.tell(x, "c1r9;"), 1);
    CHECK.due("kind now", x.stone(1, 0), 5);
    CHECK.due("figure now", x.stone(1, 1), 9);
    CHECK.due("by still", x.stone(1, 2), 1);
  }

  private static void allComesBehindWhatIs() {
    BridgeByTwo x = Told.bridge("sp00;");
    CHECK.due("more", Told.tell(x, "sh10;c0k2;"), 2);
    CHECK.due("stones", x.count(0), 2);
    CHECK.due("first", x.stone(0, 0), 4);
    CHECK.due("taken of both", Told.tell(x, "se30;u3;"), 2);
    CHECK.due("none left", x.count(0), 0);
  }

  private static void firstKindOfFault() {
    String[] texts = {"", "x", "Sp00;", "sx00;", "spx0;", "sp0x;", "sp00x", "sp00", "sp00;s", "sp00;;", "cp0;", "c0x0;",
      "c0p;", "c0p0", "mp", "m0;", "m0p5;", "m0p55", "u;", "u10;", "u", "d1;", "d001;", "d", "0", ";", "sp00; ", "sp:0;",
      "sp/0;"};
    int[] places = {0, 0, 0, 1, 2, 3, 4, 4, 6, 5, 1, 2, 3, 4, 1, 2, 4, 5, 1, 2, 1, 2, 3, 1, 0, 0, 5, 2, 2};
    for (int i = 0; i < texts.length; i++) {
      CHECK.due("fault of " + texts[i], Told.tell(new BridgeByTwo(), texts[i]), -1000 - places[i]);
    }
    CHECK.due("kind 1 goes ahead of kind 2", Told.tell(new BridgeByTwo(), "sp02;x"), -1005);
    CHECK.due("kind 1 at the end, too", Told.tell(new BridgeByTwo(), "u1;s"), -1004);
    String full = Told.repeat("m0p55;", 15) + "m0p55m";
    CHECK.due("96 letters, no end", Told.tell(new BridgeByTwo(), full), -1095);
    CHECK.due("96 letters, something lacks", Told.tell(new BridgeByTwo(), Told.repeat("sp00;", 19) + "s"), -1096);
  }

  private static void secondKindOfFault() {
    String[] texts = {"sp02;", "sp09;", "c0p0;", "sp00;c1p0;", "m2p00;", "u0;", "u1;", "sp00;u2;", "d00;", "d61;", "d70;",
      "sp00;sp00;u1;c1p0;", "d06;sp00;", "sp00;c0p0;m9p00;sp07;"};
    int[] places = {0, 0, 0, 5, 0, 0, 0, 5, 0, 0, 0, 13, 4, 10};
    for (int i = 0; i < texts.length; i++) {
      CHECK.due("fault of " + texts[i], Told.tell(new BridgeByTwo(), texts[i]), -2000 - places[i]);
    }
    CHECK.due("12 stones", Told.tell(new BridgeByTwo(), Told.repeat("sp00;", 12)), 12);
    CHECK.due("13 stones", Told.tell(new BridgeByTwo(), Told.repeat("sp00;", 13)), -2060);
    CHECK.due("room again", Told.tell(new BridgeByTwo(), Told.repeat("sp00;", 12) + "u1;sp00;c9p1;"), 15);
  }

  private static void daysInText() {
    BridgeByTwo x = Told.bridge("d60;");
    CHECK.due("day 60", x.count(2), 60);
    CHECK.due("12 stones", x.count(0), 12);
    x = new BridgeByTwo();
    CHECK.due("day 1000", Told.tell(x, Told.repeat("d60;", 16) + "d40;"), -2064);
    CHECK.due("day 999", Told.tell(x, Told.repeat("d60;", 16) + "d39;"), 17);
    CHECK.due("day", x.count(2), 999);
    CHECK.due("no day more", Told.tell(x, "u1;d01;"), -2003);
  }

  private static void withAFaultNothingComes() {
    BridgeByTwo x = Told.bridge("sp00;");
    CHECK.due("fault", Told.tell(x, "se91;m0k99;d05;u5;u9;"), -2018);
    CHECK.due("stones", x.count(0), 1);
    CHECK.due("day", x.count(2), 0);
    CHECK.due("quarrels", x.count(1), 0);
    CHECK.due("style", x.mason(0, 0), 0);
    CHECK.due("letters", x.count(7), 0);
    CHECK.due("fault", Told.tell(x, "se91;x"), -1005);
    CHECK.due("stones", x.count(0), 1);
    CHECK.due("letters", x.count(7), 0);
    for (int what = 11; what <= 16; what++) {
      CHECK.due("nothing is counted " + what, x.count(what), 0);
    }
  }
}
