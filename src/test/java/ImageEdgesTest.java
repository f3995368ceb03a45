import java.util.List;

/** Promises 41 to 43: each boundary that the document names of the image and of what is counted. */
public final class ImageEdgesTest {
  private static final Check CHECK = new Check();

  public static void main(String[] args) {
    withoutImage();
    ofNothing();
    ofTwelveStones();
    onTheLastDay();
    ofMostQuarrels();
    imagesOneBehindAnother();
    imageIsNotOfWhatComesLater();
    rowLettersRefusalsStay();
    countsOfNothing();
    countsOfAll();
    countsOfBits();
    countsWithoutSuch();
    refusalsByTheirNumbers();
    CHECK.end("ImageEdgesTest");
  }

  private static void withoutImage() {
    BridgeByTwo x = Told.bridge("sp00;m0k12;");
    List<Long> state = Seen.state(x);
    CHECK.due("there is none", x.on(), -3);
    CHECK.due("nor now", x.on(), -3);
    CHECK.due("counted", x.count(13), 2);
    CHECK.same("nothing changed", Seen.state(x), state);
    CHECK.due("taken", x.image(), 0);
    CHECK.due("there is one", x.on(), 0);
    CHECK.due("no refusal more", x.count(13), 2);
  }

  private static void ofNothing() {
    BridgeByTwo x = new BridgeByTwo();
    List<Long> state = Seen.state(x);
    CHECK.due("day 0", x.image(), 0);
    Told.tell(x, "m0k12;m1r98;" + Told.repeat("sh91;", 12) + "d60;");
    CHECK.due("back to day 0", x.on(), 0);
    CHECK.same("nothing again", Seen.state(x), state);
  }

  private static void ofTwelveStones() {
    BridgeByTwo x = new BridgeByTwo();
    for (int i = 0; i < 12; i++) {
      x.lays(i % 6, 9 - i % 10, i / 3 % 2);
    }
    x.styles(0, 5);
    x.styles(1, 4);
    x.hands(0, 0);
    x.hands(1, 9);
    x.spites(0, 9);
    x.spites(1, 0);
    x.days(1);
    List<Long> state = Seen.state(x);
    CHECK.due("day 1", x.image(), 1);
    x.takes(12);
    CHECK.due("back", x.on(), 1);
    CHECK.same("all twelve", Seen.state(x), state);
    for (int i = 0; i < 12; i++) {
      x.corrects(i, 0, 5);
    }
    x.styles(0, 0);
    x.styles(1, 0);
    x.hands(0, 5);
    x.hands(1, 5);
    x.spites(0, 5);
    x.spites(1, 5);
    x.days(60);
    CHECK.due("back", x.on(), 1);
    CHECK.same("all of it", Seen.state(x), state);
    x.takes(12);
    x.lays(0, 0, 0);
    x.on();
    CHECK.same("all twelve again", Seen.state(x), state);
  }

  private static void onTheLastDay() {
    BridgeByTwo x = new BridgeByTwo();
    x.image();
    for (int i = 0; i < 16; i++) {
      x.days(60);
    }
    x.days(39);
    CHECK.due("back to day 0", x.on(), 0);
    for (int i = 0; i < 16; i++) {
      x.days(60);
    }
    x.days(39);
    CHECK.due("day 999", x.image(), 999);
    CHECK.due("no day more", x.days(1), -6);
    CHECK.due("on from 999", x.on(), 999);
    CHECK.due("no day more", x.days(1), -6);
  }

  private static void ofMostQuarrels() {
    BridgeByTwo x = Told.quarrelling(999);
    int day = x.count(2);
    CHECK.due("its day", x.image(), day);
    Told.tell(x, "m0p00;m1p00;u1;d09;");
    CHECK.due("quarrels stay", x.count(1), 999);
    CHECK.due("back", x.on(), day);
    CHECK.due("999", x.count(1), 999);
    CHECK.due("style of 1", x.mason(1, 0), 3);
  }

  private static void imagesOneBehindAnother() {
    BridgeByTwo x = Told.bridge("sp00;d01;");
    CHECK.due("first", x.image(), 1);
    x.days(2);
    CHECK.due("second", x.image(), 3);
    x.days(3);
    CHECK.due("on from the second", x.on(), 3);
    CHECK.due("and again", x.on(), 3);
    x.days(1);
    CHECK.due("and again", x.on(), 3);
    CHECK.due("stones as then", x.count(0), 7);
  }

  /** A bridge told with a fault, a refusal and a question behind the image leave it as it is. */
  private static void imageIsNotOfWhatComesLater() {
    BridgeByTwo x = Told.bridge("sk91;m0r11;d01;");
    List<Long> state = Seen.state(x);
    x.image();
    Told.tell(x, "u1;d09;u9;x");
    Told.tell(x, "u1;d09;d00;");
    x.lays(0, 0, 9);
    x.fewest();
    x.lots(20, 3, 1);
    CHECK.same("the state", Seen.state(x), state);
    Told.tell(x, "u1;c0e3;m1e33;");
    x.on();
    CHECK.same("from the image", Seen.state(x), state);
  }

  private static void rowLettersRefusalsStay() {
    BridgeByTwo x = Told.bridge("se00;");
    x.row(51);
    Told.letters(x, "sp");
    x.kinds(2);
    x.image();
    x.row(51);
    Told.letters(x, "51");
    x.kinds(2);
    x.kinds(2);
    x.on();
    CHECK.due("the row is not of the image", x.count(6), 2);
    CHECK.due("the letters are not", x.count(7), 4);
    CHECK.due("the refusals are not", x.count(11), 3);
    CHECK.due("the row as told", x.judge(), 1);
    x.letter(';');
    CHECK.due("the letters as told", x.bridge(), 1);
    CHECK.due("its stone", x.stone(1, 1) * 10 + x.stone(1, 2), 51);
    x.on();
    CHECK.due("no row comes back", x.count(6), 0);
    CHECK.due("no letters come back", x.count(7), 0);
    CHECK.due("the image is there still", x.count(0), 1);
  }

  private static void countsOfNothing() {
    BridgeByTwo x = new BridgeByTwo();
    for (int what = 0; what <= 7; what++) {
      CHECK.due("count " + what, x.count(what), 0);
    }
    for (int what = 11; what <= 16; what++) {
      CHECK.due("count " + what, x.count(what), 0);
    }
  }

  private static void countsOfAll() {
    BridgeByTwo x = Told.quarrelling(999);
    x.takes(x.count(0));
    while (x.count(2) < 999) {
      x.days(Math.min(60, 999 - x.count(2)));
    }
    for (int i = 0; i < 12; i++) {
      x.corrects(i, 2, 9);
    }
    for (int i = 0; i < 16; i++) {
      x.row(99);
      Told.letters(x, "d60;d6");
    }
    int[] due = {12, 999, 999, 108, -1, 0, 16, 96};
    for (int what = 0; what < due.length; what++) {
      if (what != 4) {
        CHECK.due("count " + what, x.count(what), due[what]);
      }
    }
    CHECK.due("stones by 1 are as many as his share", Integer.bitCount(x.count(4)), x.mason(1, 3));
  }

  private static void countsOfBits() {
    CHECK.due("all by 1", Told.bridge(Told.repeat("sp01;", 12)).count(4), 4095);
    CHECK.due("none by 1", Told.bridge(Told.repeat("sp00;", 12)).count(4), 0);
    CHECK.due("the first", Told.bridge("sp01;" + Told.repeat("sp00;", 11)).count(4), 1);
    CHECK.due("the last", Told.bridge(Told.repeat("sp00;", 11) + "sp01;").count(4), 2048);
    // w0 beside w0 holds 3 of 6, 6, 5, 5, 4, 4, 3, ..
    CHECK.due("the first six lack", Told.bridge(Told.repeat("sw00;sw01;", 6)).count(5), 63);
    CHECK.due("all joints lack", Told.bridge(Told.repeat("sw00;sr01;", 6)).count(5), 2047);
    CHECK.due("the last lacks", Told.bridge(Told.repeat("sk90;", 11) + "sw00;").count(5), 1024);
    CHECK.due("just enough does not lack", Told.bridge("sw10;sk90;").count(5), 0);
    CHECK.due("figures of none", Told.bridge("sp90;u1;").count(3), 0);
    CHECK.due("figures of all", Told.bridge(Told.repeat("sp90;", 12)).count(3), 108);
  }

  private static void countsWithoutSuch() {
    BridgeByTwo x = Told.bridge("sp91;sw00;");
    int[] none = {-1, 8, 9, 10, 17, 18, 100, Integer.MIN_VALUE, Integer.MIN_VALUE + 10, Integer.MAX_VALUE};
    for (int what : none) {
      CHECK.due("count " + what, x.count(what), -9);
    }
    CHECK.same("that is no refusal", Seen.refusals(x), List.of(0L, 0L, 0L, 0L, 0L, 0L));
  }

  private static void refusalsByTheirNumbers() {
    BridgeByTwo x = new BridgeByTwo();
    x.kinds(2);
    x.stands(3);
    x.stands(3);
    x.on();
    x.on();
    x.on();
    for (int i = 0; i < 4; i++) {
      x.takes(0);
    }
    for (int i = 0; i < 6; i++) {
      x.takes(1);
    }
    CHECK.same("each by its number, none of -5", Seen.refusals(x), List.of(1L, 2L, 3L, 4L, 0L, 6L));
  }
}
