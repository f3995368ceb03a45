/** Promises 6, 10 to 13, 17, 18: each boundary that the document names of masons and of days that go by. */
public final class MasonsEdgesTest {
  private static final Check CHECK = new Check();

  public static void main(String[] args) {
    traitsAtFirst();
    shareOfNoneAndAll();
    eachStyle();
    eachHandAndSpite();
    nobodyElse();
    oneDayAndSixty();
    dayAtItsMost();
    withoutStonesHeLays();
    whenSpiteIsEnough();
    whenSpiteIsEnoughForTheOther();
    onlyTheOtherOnesStone();
    onlyAnotherStyle();
    eachHasHisOwnSpite();
    theFirstThenTheSecond();
    roomForOne();
    withoutRoomHeCorrects();
    quarrelsAtTheirMost();
    inThoughtNowAndSixty();
    inThoughtTheDayMayPass();
    upAtOnceAndNever();
    upOnlyWhereItStands();
    upLatest();
    fallsAtOnceAndNever();
    CHECK.end("MasonsEdgesTest");
  }

  private static void traitsAtFirst() {
    BridgeByTwo x = new BridgeByTwo();
    for (int mason = 0; mason <= 1; mason++) {
      CHECK.due("style at first", x.mason(mason, 0), 0);
      CHECK.due("hand at first", x.mason(mason, 1), 5);
      CHECK.due("spite at first", x.mason(mason, 2), 5);
      CHECK.due("share at first", x.mason(mason, 3), 0);
    }
  }

  private static void shareOfNoneAndAll() {
    BridgeByTwo x = Told.bridge(Told.repeat("sp01;", 12));
    CHECK.due("none of 0", x.mason(0, 3), 0);
    CHECK.due("all of 1", x.mason(1, 3), 12);
    x = Told.bridge(Told.repeat("sp00;", 11) + "sp01;");
    CHECK.due("all but the last", x.mason(0, 3), 11);
    CHECK.due("the last", x.mason(1, 3), 1);
  }

  private static void eachStyle() {
    for (int mason = 0; mason <= 1; mason++) {
      BridgeByTwo x = new BridgeByTwo();
      for (int kind = 5; kind >= 0; kind--) {
        CHECK.due("style that was", x.styles(mason, kind), kind == 5 ? 0 : kind + 1);
        CHECK.due("style that is", x.mason(mason, 0), kind);
        CHECK.due("style again", x.styles(mason, kind), kind);
      }
      CHECK.due("above the greatest", x.styles(mason, 6), -2);
      CHECK.due("below the least", x.styles(mason, -1), -2);
      x.styles(mason, 5);
      CHECK.due("the other one's style", x.mason(1 - mason, 0), 0);
    }
  }

  private static void eachHandAndSpite() {
    for (int mason = 0; mason <= 1; mason++) {
      BridgeByTwo x = new BridgeByTwo();
      for (int v = 0; v <= 9; v++) {
        CHECK.due("hand that was", x.hands(mason, v), v == 0 ? 5 : v - 1);
        CHECK.due("hand that is", x.mason(mason, 1), v);
        CHECK.due("spite that was", x.spites(mason, 9 - v), v == 0 ? 5 : 10 - v);
        CHECK.due("spite that is", x.mason(mason, 2), 9 - v);
      }
      CHECK.due("hand below the least", x.hands(mason, -1), -4);
      CHECK.due("hand above the greatest", x.hands(mason, 10), -6);
      CHECK.due("spite below the least", x.spites(mason, -1), -4);
      CHECK.due("spite above the greatest", x.spites(mason, 10), -6);
      CHECK.due("hand stays", x.mason(mason, 1), 9);
      CHECK.due("spite stays", x.mason(mason, 2), 0);
      CHECK.due("the other one's hand", x.mason(1 - mason, 1), 5);
      CHECK.due("the other one's spite", x.mason(1 - mason, 2), 5);
    }
  }

  private static void nobodyElse() {
    BridgeByTwo x = new BridgeByTwo();
    CHECK.due("mason 2", x.mason(2, 0), -1);
    CHECK.due("mason -1", x.mason(-1, 0), -1);
    CHECK.due("what 4", x.mason(1, 4), -2);
    CHECK.due("what -1", x.mason(1, -1), -2);
  }

  private static void oneDayAndSixty() {
    BridgeByTwo x = new BridgeByTwo();
    CHECK.due("none", x.days(0), -4);
    CHECK.due("61", x.days(61), -6);
    CHECK.due("day 0", x.count(2), 0);
    CHECK.due("one", x.days(1), 2);
    CHECK.due("day 1", x.count(2), 1);
    CHECK.due("sixty", x.days(60), 12);
    CHECK.due("day 61", x.count(2), 61);
  }

  private static BridgeByTwo atDay939() {
    BridgeByTwo x = new BridgeByTwo();
    for (int i = 0; i < 15; i++) {
      x.days(60);
    }
    x.days(39);
    return x;
  }

  private static void dayAtItsMost() {
    BridgeByTwo x = atDay939();
    CHECK.due("sixty days to 999", x.days(60), 12);
    CHECK.due("day 999", x.count(2), 999);
    x.takes(12);
    CHECK.due("one more", x.days(1), -6);
    CHECK.due("sixty more", x.days(60), -6);
    CHECK.due("none more", x.days(0), -4);
    CHECK.due("nothing was laid", x.count(0), 0);
    CHECK.due("day 999", x.count(2), 999);
    x = atDay939();
    x.days(1);
    x.takes(12);
    CHECK.due("sixty to 1000", x.days(60), -6);
    CHECK.due("nothing was laid", x.count(0), 0);
    CHECK.due("day 940", x.count(2), 940);
    CHECK.due("59 to 999", x.days(59), 12);
    CHECK.due("day 999", x.count(2), 999);
  }

  private static void withoutStonesHeLays() {
    BridgeByTwo x = Told.bridge("m0h99;m1h99;d01;");
    CHECK.due("both lay", x.count(0), 2);
    CHECK.due("no quarrels", x.count(1), 0);
  }

  /** One stone of the other one: mason 0 corrects it, if SPITE and QUARRELS, modulo 10, are 5 or more. */
  private static void whenSpiteIsEnough() {
    int[] quarrels = {0, 1, 2, 3, 4, 5, 6, 7, 8, 9, 10, 11, 15, 19, 20, 95, 994, 995, 996, 998, 999};
    for (int q : quarrels) {
      BridgeByTwo x = Told.quarrelling(q);
      x.styles(1, 0);
      x.hands(0, 3);
      x.lays(1, 0, 1);
      x.takes(1);
      x.image();
      for (int spite = 0; spite <= 9; spite++) {
        x.on();
        x.takes(Math.max(x.count(0), 1));
        x.lays(1, 0, 1);
        x.spites(0, spite);
        x.days(1);
        boolean corrects = (spite + q) % 10 >= 5;
        String name = "spite " + spite + ", quarrels " + q;
        CHECK.due(name, x.count(1), corrects ? Math.min(q + 1, 999) : q);
        CHECK.due(name + ": whose", x.stone(0, 2), corrects ? 0 : 1);
        CHECK.due(name + ": kind", x.stone(0, 0), corrects ? 0 : 1);
        CHECK.due(name + ": figure", x.stone(0, 1), corrects ? 3 : 0);
        CHECK.due(name + ": stones", x.count(0), corrects ? 2 : 3);
      }
    }
  }

  /** A full bridge with mason 0's stone at its end. */
  private static void whenSpiteIsEnoughForTheOther() {
    for (int q = 0; q <= 20; q++) {
      BridgeByTwo x = Told.quarrelling(q);
      if (x.count(0) > 0) {
        x.takes(x.count(0));
      }
      for (int i = 0; i < 12; i++) {
        x.lays(1, 0, 0);
      }
      x.hands(1, 7);
      x.image();
      for (int spite = 0; spite <= 9; spite++) {
        x.on();
        x.spites(1, spite);
        CHECK.due("stones", x.days(1), 12);
        boolean corrects = (spite + q) % 10 >= 5;
        String name = "spite " + spite + " of 1, quarrels " + q;
        CHECK.due(name, x.count(1), corrects ? q + 1 : q);
        CHECK.due(name + ": whose", x.stone(11, 2), corrects ? 1 : 0);
        CHECK.due(name + ": kind", x.stone(11, 0), corrects ? 3 : 1);
        CHECK.due(name + ": figure", x.stone(11, 1), corrects ? 7 : 0);
      }
    }
  }

  private static void onlyTheOtherOnesStone() {
    BridgeByTwo x = Told.bridge("m0h59;m1h59;sp00;d01;");
    CHECK.due("his own is not corrected", x.stone(0, 0), 0);
    CHECK.due("no quarrels", x.count(1), 0);
    CHECK.due("both lay", x.count(0), 3);
  }

  private static void onlyAnotherStyle() {
    BridgeByTwo x = Told.bridge("m0h59;m1h59;sh01;d01;");
    CHECK.due("his style is not corrected", x.stone(0, 1), 0);
    CHECK.due("no quarrels", x.count(1), 0);
    CHECK.due("both lay", x.count(0), 3);
  }

  private static void eachHasHisOwnSpite() {
    BridgeByTwo x = Told.bridge("m0h15;m1p24;sp01;d01;");
    CHECK.due("mason 0 corrects, 5 and 0, mason 1, too, 4 and 1", x.count(1), 2);
    CHECK.due("one stone", x.count(0), 1);
    CHECK.due("mason 1's", x.stone(0, 1), 2);
    x = Told.bridge("m0h15;m1p23;sp01;d01;");
    CHECK.due("mason 0 corrects", x.stone(0, 1), 1);
    CHECK.due("mason 1 lays, 3 and 1", x.count(0), 2);
    CHECK.due("one quarrel", x.count(1), 1);
    x = Told.bridge("m0h14;m1p25;sp01;d01;");
    CHECK.due("mason 0 lays, mason 1 corrects that", x.count(0), 2);
    CHECK.due("his hand", x.stone(1, 1), 2);
    CHECK.due("one quarrel", x.count(1), 1);
  }

  private static void theFirstThenTheSecond() {
    BridgeByTwo x = Told.bridge("m0e10;m1w20;d01;");
    CHECK.due("first by 0", x.stone(0, 2), 0);
    CHECK.due("first kind", x.stone(0, 0), 1);
    CHECK.due("second by 1", x.stone(1, 2), 1);
    CHECK.due("second kind", x.stone(1, 0), 2);
  }

  private static void roomForOne() {
    BridgeByTwo x = Told.bridge(Told.repeat("sp00;", 11));
    CHECK.due("the last place", x.days(1), 12);
    CHECK.due("is mason 0's", x.stone(11, 2), 0);
    x = Told.bridge(Told.repeat("sp00;", 10));
    CHECK.due("the last two places", x.days(1), 12);
    CHECK.due("the last is mason 1's", x.stone(11, 2), 1);
    CHECK.due("no more", x.days(1), 12);
    CHECK.due("no quarrels", x.count(1), 0);
  }

  private static void withoutRoomHeCorrects() {
    BridgeByTwo x = Told.bridge("m0h15;m1k25;" + Told.repeat("sp01;", 12));
    CHECK.due("full", x.days(1), 12);
    CHECK.due("both corrected", x.count(1), 2);
    CHECK.due("the last one's kind", x.stone(11, 0), 4);
    CHECK.due("the last one's figure", x.stone(11, 1), 2);
    CHECK.due("the one ahead stays", x.stone(10, 0), 0);
  }

  private static void quarrelsAtTheirMost() {
    BridgeByTwo x = Told.quarrelling(998);
    x.takes(x.count(0));
    x.lays(1, 0, 1);
    // 7 and 998, 7 and 999, modulo 10, are 5 and 6: both correct.
    x.spites(0, 7);
    x.spites(1, 7);
    x.image();
    CHECK.due("in thought", x.then(1, 1), 999);
    CHECK.due("in thought", x.then(60, 1), 999);
    CHECK.due("both correct", x.days(1), 1);
    CHECK.due("999 at most", x.count(1), 999);
    CHECK.due("the last by 1", x.stone(0, 0) * 10 + x.stone(0, 2), 31);
    CHECK.due("they go on", x.days(3), 1);
    CHECK.due("999", x.count(1), 999);
    x.hands(1, 2);
    x.days(1);
    CHECK.due("corrected anew", x.stone(0, 1), 2);
    CHECK.due("from the image", x.on(), 900);
    CHECK.due("998 as then", x.count(1), 998);
  }

  private static void inThoughtNowAndSixty() {
    BridgeByTwo x = Told.bridge("m0k55;m1p53;sh91;se81;");
    CHECK.due("now", x.then(0, 0), 2);
    CHECK.due("now", x.then(0, 1), 0);
    CHECK.due("now", x.then(0, 2), 1);
    CHECK.due("one day", x.then(1, 0), 3);
    CHECK.due("its quarrel", x.then(1, 1), 1);
    CHECK.due("sixty days", x.then(60, 0), 12);
    CHECK.due("below the least", x.then(-1, 0), -4);
    CHECK.due("above the greatest", x.then(61, 0), -6);
    CHECK.due("nothing changed", x.count(0) * 100 + x.count(1) * 10 + x.count(2), 200);
    x = Told.bridge("sk91;sw00;");
    CHECK.due("it does not stand now", x.then(0, 2), 0);
  }

  /** The same questions of a bridge on day 999 and of one on day 0. */
  private static void inThoughtTheDayMayPass() {
    BridgeByTwo first = new BridgeByTwo();
    BridgeByTwo last = atDay939();
    last.days(60);
    last.takes(12);
    BridgeByTwo[] both = {first, last};
    for (BridgeByTwo x : both) {
      x.styles(0, 3);
      x.hands(0, 1);
      x.lays(2, 3, 1);
    }
    for (int n = 0; n <= 60; n++) {
      for (int what = 0; what <= 2; what++) {
        CHECK.due("then " + n + " " + what, last.then(n, what), first.then(n, what));
      }
    }
    int[] ns = {0, 1, 9, 60};
    for (int n : ns) {
      CHECK.due("yields " + n, last.yields(n), first.yields(n));
      CHECK.due("swap " + n, last.swap(n), first.swap(n));
      CHECK.due("two " + n, last.two(Math.min(n, 30)), first.two(Math.min(n, 30)));
      CHECK.due("best " + n, last.best(1, n / 3, 0), first.best(1, n / 3, 0));
      CHECK.due("best spare " + n, last.best(1, n / 3, 1), first.best(1, n / 3, 1));
      CHECK.due("fever " + n, last.fever(n / 9, 3, 0), first.fever(n / 9, 3, 0));
    }
    CHECK.due("up", last.up(0), first.up(0));
    CHECK.due("falls", last.up(1), first.up(1));
    CHECK.due("peace", last.peace(), first.peace());
    CHECK.due("lots", last.lots(20, 5, 1), first.lots(20, 5, 1));
    CHECK.due("day 999 still", last.count(2), 999);
  }

  private static void upAtOnceAndNever() {
    CHECK.due("now", Told.bridge(Told.repeat("sp90;", 12)).up(0), 0);
    CHECK.due("behind a day", Told.bridge(Told.repeat("sp90;", 11)).up(0), 1);
    CHECK.due("behind a day", Told.bridge(Told.repeat("sp90;", 10)).up(0), 1);
    CHECK.due("behind two days", Told.bridge(Told.repeat("sp90;", 9)).up(0), 2);
    CHECK.due("from nothing", new BridgeByTwo().up(0), 6);
    CHECK.due("never", Told.bridge("sr90;sr90;sr90;").up(0), -9);
    CHECK.due("full, but never", Told.bridge("sw00;" + Told.repeat("sp90;", 11)).up(0), -9);
    CHECK.due("nothing is refused", new BridgeByTwo().count(16), 0);
  }

  /** Twelve stones, of which the last holds nothing until mason 0 corrects it. */
  private static void upOnlyWhereItStands() {
    BridgeByTwo x = Told.bridge(Told.repeat("sp90;", 11) + "sw01;");
    CHECK.due("full", x.then(0, 0), 12);
    CHECK.due("it does not stand", x.then(0, 2), 0);
    CHECK.due("behind a day", x.up(0), 1);
    CHECK.due("falls at once", x.up(1), 0);
    x.spites(0, 4);
    CHECK.due("not corrected", x.up(0), -9);
  }

  /** The latest that was found; behind 15 days nothing changes any more. */
  private static void upLatest() {
    BridgeByTwo x = Told.bridge("m0w81;m1e66;");
    CHECK.due("up", x.up(0), 14);
    for (int n = 0; n <= 14; n++) {
      boolean up = x.then(n, 0) == 12 && x.then(n, 2) == 1;
      CHECK.so("behind " + n + " days", up == (n == 14));
    }
  }

  private static void fallsAtOnceAndNever() {
    CHECK.due("now", Told.bridge("sk90;sw00;").up(1), 0);
    // Lean -4 and -6 by turns; r9 beside e9 holds 4: ten stones are too many.
    CHECK.due("behind 4 days", Told.bridge("sr90;sr90;m0e90;m1w94;").up(1), 4);
    CHECK.due("never", new BridgeByTwo().up(1), -9);
    // Lean -6; west ones of both.
    CHECK.due("behind a day", Told.bridge("sr90;sr90;m0w90;m1w90;").up(1), 1);
    // p0 and p0 hold 4: 9 stones are too many; there are 10 behind 5 days.
    CHECK.due("behind 5 days", Told.bridge("m0p00;m1p00;").up(1), 5);
    BridgeByTwo x = Told.bridge("m0h48;m1p53;");
    CHECK.due("latest", x.up(1), 13);
    for (int n = 0; n <= 13; n++) {
      CHECK.due("stands behind " + n, x.then(n, 2), n < 13 ? 1 : 0);
    }
  }
}
