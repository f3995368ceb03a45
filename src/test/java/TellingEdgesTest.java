import java.util.List;

/** Promises 1 to 3: each boundary that the document names of a new object, of letters and of a told bridge. */
public final class TellingEdgesTest {
  private static final Check CHECK = new Check();
  private static final String[] FORMS = {"sp00;", "c0p0;", "m0p55;", "u1;", "d01;"};
  private static final String KINDS = "pewhkr";
  private static final String DIGITS = "0123456789";

  public static void main(String[] args) {
    newObjectHasNothing();
    newObjectAnswersAsOfNothing();
    eachLetterComes();
    ninetySixLetters();
    lettersBeginAnew();
    atLeastOneStatement();
    eachSignInEachPlace();
    theEndIfSomethingLacks();
    endOfTheNinetySix();
    kindOneGoesAhead();
    digitsOfStones();
    stonesToBecome();
    masonsTold();
    howManyAreTakenAway();
    daysTold();
    dayAtItsMost();
    roomForOneMore();
    behindAllAhead();
    firstOfSeveralFaults();
    leastAndMostStatements();
    withAFaultNothingComes();
    nothingIsCounted();
    whoLaidItStays();
    CHECK.end("TellingEdgesTest");
  }

  private static void fault(BridgeByTwo x, String text, int due) {
    CHECK.due("\"" + text + "\"", Told.tell(x, text), due);
  }

  private static void fault(String text, int due) {
    fault(new BridgeByTwo(), text, due);
  }

  private static void newObjectHasNothing() {
    BridgeByTwo x = new BridgeByTwo();
    CHECK.due("no stones", x.count(0), 0);
    CHECK.due("no quarrels", x.count(1), 0);
    CHECK.due("day 0", x.count(2), 0);
    CHECK.due("no row", x.clear(), 0);
    CHECK.due("no letters", x.count(7), 0);
    CHECK.same("no refusals", Seen.refusals(x), List.of(0L, 0L, 0L, 0L, 0L, 0L));
    CHECK.due("no image", x.on(), -3);
    CHECK.same("state", Seen.state(x), List.of(0L, 0L, 0L, 0L, 0L, 0L, 0L, 5L, 5L, 0L, 0L, 5L, 5L, 0L));
  }

  private static void newObjectAnswersAsOfNothing() {
    BridgeByTwo x = new BridgeByTwo();
    CHECK.due("stands", x.stands(0), 1);
    CHECK.due("breaks", x.stands(1), -9);
    CHECK.due("leans", x.stands(2), -9);
    CHECK.due("spare", x.spare(0), 0);
    CHECK.due("spare at", x.spare(1), -9);
    CHECK.due("lean", x.lean(0), 0);
    CHECK.due("farthest", x.lean(1), 0);
    CHECK.due("then stones", x.then(0, 0), 0);
    CHECK.due("then quarrels", x.then(0, 1), 0);
    CHECK.due("then stands", x.then(0, 2), 1);
    CHECK.due("mend", x.mend(), -9);
    CHECK.due("fewest", x.fewest(), 0);
    CHECK.due("take", x.take(), 0);
    CHECK.due("turn back", x.turnBack(), -9);
    CHECK.due("runs", x.runs(0), 0);
    CHECK.due("longest", x.runs(1), 0);
    CHECK.due("agreed", x.runs(2), 0);
    CHECK.due("kinds of 0", x.kinds(0), 0);
    CHECK.due("kinds of 1", x.kinds(1), 0);
    CHECK.due("keystone", x.keystone(), -9);
    CHECK.due("mortar", x.mortar(), 0);
    CHECK.due("mean above", x.mean(0), 0);
    CHECK.due("mean below", x.mean(1), 1);
    CHECK.due("judge", x.judge(), -9);
    CHECK.due("clear", x.clear(), 0);
  }

  private static void eachLetterComes() {
    for (int first = 0; first < 256; first += 64) {
      BridgeByTwo x = new BridgeByTwo();
      for (int c = first; c < first + 64; c++) {
        CHECK.due("letter " + c, x.letter(c), c - first + 1);
      }
      CHECK.due("letters", x.count(7), 64);
    }
  }

  private static void ninetySixLetters() {
    BridgeByTwo x = new BridgeByTwo();
    Told.letters(x, Told.repeat("m0p55;", 15) + "m0k99");
    CHECK.due("95 letters", x.count(7), 95);
    CHECK.due("the 96th", x.letter(';'), 96);
    CHECK.due("the 97th", x.letter(';'), -6);
    CHECK.due("the greatest as the 97th", x.letter(255), -6);
    CHECK.due("below the least as the 97th", x.letter(-1), -4);
    CHECK.due("96 letters", x.count(7), 96);
    CHECK.due("16 statements", x.bridge(), 16);
    CHECK.due("the last of them came", x.mason(0, 0), 4);
  }

  private static void lettersBeginAnew() {
    BridgeByTwo x = new BridgeByTwo();
    fault(x, "m0p55;", 1);
    CHECK.due("first letter behind a bridge", x.letter('x'), 1);
    CHECK.due("fault", x.bridge(), -1000);
    CHECK.due("first letter behind a fault of kind 1", x.letter('u'), 1);
    Told.letters(x, "1;");
    CHECK.due("fault", x.bridge(), -2000);
    CHECK.due("first letter behind a fault of kind 2", x.letter('u'), 1);
    CHECK.due("only that", x.bridge(), -1001);
    CHECK.due("none again", x.bridge(), -1000);
    fault(x, Told.repeat("m0p55;", 16), 16);
    fault(x, Told.repeat("m0h55;", 16), 16);
    CHECK.due("room again behind 96", x.mason(0, 0), 3);
  }

  private static void atLeastOneStatement() {
    fault("", -1000);
    fault(Told.bridge("sp00;"), "", -1000);
    fault(";", -1000);
    fault("sp00;;", -1005);
  }

  /** Which signs may stand in a place of a form: its own sign tells of which sort they are. */
  private static String signsFor(char sign) {
    if (sign == 'p') {
      return KINDS;
    }
    return sign >= '0' && sign <= '9' ? DIGITS : ";";
  }

  private static void eachSignInEachPlace() {
    for (String form : FORMS) {
      for (int place = 0; place < form.length(); place++) {
        for (int c = 0; c < 256; c++) {
          String signs = place == 0 ? "scmud" : signsFor(form.charAt(place));
          if (signs.indexOf(c) < 0) {
            String text = "m1w23;" + form.substring(0, place) + (char) c + form.substring(place + 1);
            fault(text, -1006 - place);
          } else if (place > 0) {
            String text = "sp00;" + form.substring(0, place) + (char) c + form.substring(place + 1);
            int answer = Told.tell(new BridgeByTwo(), text);
            CHECK.so(text + " has no fault of kind 1", answer == 2 || answer == -2005);
          }
        }
      }
    }
  }

  private static void theEndIfSomethingLacks() {
    for (String form : FORMS) {
      for (int length = 0; length < form.length(); length++) {
        fault(form.substring(0, length), -1000 - length);
        if (length > 0) {
          fault("sp00;" + form.substring(0, length), -1005 - length);
        }
      }
    }
  }

  private static void endOfTheNinetySix() {
    String fifteen = Told.repeat("m0p55;", 15);
    fault(fifteen + "m0p55m", -1095);
    fault(fifteen + "d01;d0", -1096);
    fault(fifteen + "d01;u1", -1096);
    fault(fifteen + "d01; ;", -1094);
    fault(fifteen + "sp02;s", -1096);
  }

  private static void kindOneGoesAhead() {
    fault("u0;x", -1003);
    fault("u0;u", -1004);
    fault("u0;u1;", -2000);
    fault("m9p00;m9x00;", -1008);
  }

  private static void digitsOfStones() {
    for (int figure = 0; figure <= 9; figure++) {
      BridgeByTwo x = Told.bridge("sp" + figure + "1;");
      CHECK.due("figure told", x.stone(0, 1), figure);
    }
    for (int by = 0; by <= 9; by++) {
      fault("sp0" + by + ";", by <= 1 ? 1 : -2000);
    }
    for (int kind = 0; kind < 6; kind++) {
      BridgeByTwo x = Told.bridge("s" + KINDS.charAt(kind) + "90;");
      CHECK.due("kind told", x.stone(0, 0), kind);
    }
  }

  private static void stonesToBecome() {
    for (int stones = 0; stones <= 12; stones++) {
      for (int stone = 0; stone <= 9; stone++) {
        BridgeByTwo x = new BridgeByTwo();
        for (int i = 0; i < stones; i++) {
          x.lays(0, 5, 1);
        }
        fault(x, "c" + stone + "r0;", stone < stones ? 1 : -2000);
        if (stone < stones) {
          CHECK.due("it becomes that", x.corrects(stone, 0, 0), 50);
        }
      }
    }
  }

  private static void masonsTold() {
    for (int mason = 0; mason <= 9; mason++) {
      fault("m" + mason + "r90;", mason <= 1 ? 1 : -2000);
    }
    for (int v = 0; v <= 9; v++) {
      BridgeByTwo x = Told.bridge("m1k" + v + (9 - v) + ";");
      CHECK.due("hand told", x.mason(1, 1), v);
      CHECK.due("spite told", x.mason(1, 2), 9 - v);
    }
    for (int kind = 0; kind < 6; kind++) {
      BridgeByTwo x = Told.bridge("m0" + KINDS.charAt(kind) + "55;");
      CHECK.due("style told", x.mason(0, 0), kind);
      CHECK.due("the other one's stays", x.mason(1, 0), 0);
    }
  }

  private static void howManyAreTakenAway() {
    for (int stones = 0; stones <= 12; stones++) {
      for (int n = 0; n <= 9; n++) {
        BridgeByTwo x = new BridgeByTwo();
        for (int i = 0; i < stones; i++) {
          x.lays(0, 5, 1);
        }
        fault(x, "u" + n + ";", n >= 1 && n <= stones ? 1 : -2000);
        CHECK.due("left of " + stones + " without " + n, x.count(0), n <= stones ? stones - n : stones);
      }
    }
  }

  private static void daysTold() {
    for (int n = 0; n <= 99; n++) {
      BridgeByTwo x = new BridgeByTwo();
      fault(x, "d" + n / 10 + n % 10 + ";", n >= 1 && n <= 60 ? 1 : -2000);
      CHECK.due("day behind " + n, x.count(2), n <= 60 ? n : 0);
    }
  }

  private static void dayAtItsMost() {
    String days959 = Told.repeat("d60;", 15) + "d59;";
    BridgeByTwo x = Told.bridge(days959);
    fault(x, "d41;", -2000);
    CHECK.due("day 959", x.count(2), 959);
    fault(x, "d40;", 1);
    CHECK.due("day 999", x.count(2), 999);
    fault(x, "d01;", -2000);
    fault(x, "d60;", -2000);
    x = Told.bridge(days959);
    fault(x, "d39;d01;d01;", -2008);
    CHECK.due("day 959", x.count(2), 959);
    fault(x, "d39;d01;", 2);
    CHECK.due("day 999", x.count(2), 999);
  }

  private static void roomForOneMore() {
    BridgeByTwo x = Told.bridge(Told.repeat("sp00;", 11));
    fault(x, "sp00;sp00;", -2005);
    CHECK.due("11 stones", x.count(0), 11);
    fault(x, "sp00;", 1);
    CHECK.due("12 stones", x.count(0), 12);
    fault(x, "sp00;", -2000);
    fault(x, "d01;", 1);
    CHECK.due("12 stones", x.count(0), 12);
    fault(Told.repeat("sp00;", 13), -2060);
  }

  private static void behindAllAhead() {
    fault("c0p0;sp00;", -2000);
    fault("sp00;c0p0;c1p0;", -2010);
    fault("sp00;u1;c0p0;", -2008);
    fault("u1;sp00;", -2000);
    fault("sp00;u1;u1;", -2008);
    fault("d01;c1p0;", 2);
    fault("d01;c2p0;", -2004);
    fault("d05;sp00;sp00;sp00;", -2014);
    fault("d06;sp00;", -2004);
    fault("d06;u1;sp00;", 3);
    fault(Told.bridge("sp00;sp00;"), "u2;c0p0;", -2003);
  }

  private static void firstOfSeveralFaults() {
    fault("sp00;u2;sp07;d00;", -2005);
    fault("sp07;u2;", -2000);
    fault("x;y", -1000);
    fault("sp0x;spx", -1003);
  }

  private static void leastAndMostStatements() {
    fault("u1;", -2000);
    fault("d01;", 1);
    fault(Told.repeat("d01;", 24), 24);
    BridgeByTwo x = Told.bridge(Told.repeat("sp00;", 12));
    fault(x, Told.repeat("u1;", 12) + Told.repeat("sp00;u1;", 7) + "d60;", 27);
    CHECK.due("day 60", x.count(2), 60);
  }

  private static void withAFaultNothingComes() {
    String[] texts = {"sh90;m0k77;d09;u1;c0e0;x", "sh90;m0k77;d09;u1;c0e0;d00;", "u3;m1r11;sp02;", "d60;d60;sp00;"};
    for (String text : texts) {
      BridgeByTwo x = Told.bridge("m0w34;sk81;se20;sh71;d02;");
      x.image();
      x.row(1);
      List<Long> state = Seen.state(x);
      CHECK.so(text + " has a fault", Told.tell(x, text) <= -1000);
      CHECK.same("nothing of " + text, Seen.state(x), state);
      CHECK.due("the row stays", x.count(6), 1);
      CHECK.due("the letters do not", x.count(7), 0);
    }
  }

  private static void nothingIsCounted() {
    BridgeByTwo x = new BridgeByTwo();
    fault(x, "", -1000);
    fault(x, "c9p0;", -2000);
    fault(x, "m2p00;", -2000);
    fault(x, "d61;", -2000);
    fault(x, Told.repeat("sp00;", 13), -2060);
    CHECK.same("no refusals", Seen.refusals(x), List.of(0L, 0L, 0L, 0L, 0L, 0L));
  }

  private static void whoLaidItStays() {
    BridgeByTwo x = Told.bridge("sp00;sp01;c0k9;c1r8;");
    CHECK.due("by 0", x.stone(0, 2), 0);
    CHECK.due("by 1", x.stone(1, 2), 1);
    CHECK.due("kind", x.stone(0, 0), 4);
    CHECK.due("figure", x.stone(1, 1), 8);
    CHECK.due("no quarrels", x.count(1), 0);
  }
}
