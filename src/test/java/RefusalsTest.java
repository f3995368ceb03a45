import java.util.ArrayList;
import java.util.List;
import java.util.function.ToLongFunction;

/**
 * What each call refuses: just below the least and above the greatest and at the ends of int, the first that fits in the
 * order in which its promise tells it; and that nothing changes by it but how many there were.
 */
public final class RefusalsTest {
  private static final Check CHECK = new Check();
  private static final int FINE = 0;
  private static final int NOBODY = -1;
  private static final int OTHER = -2;
  private static final int STATE = -3;
  private static final int BELOW = -4;
  private static final int ROOM = -6;

  /** The objects of which each call is asked: a new one, one with something of all, one that is full of all. */
  private enum Kind {
    NEW(0, 0), SOME(3, 2), FULL(12, 999);

    final int stones;
    final int day;

    Kind(int stones, int day) {
      this.stones = stones;
      this.day = day;
    }

    BridgeByTwo make() {
      switch (this) {
        case NEW:
          return new BridgeByTwo();
        case SOME:
          return some();
        default:
          return full();
      }
    }
  }

  private final Kind kind;
  private final List<Long> asItWas;

  private RefusalsTest(Kind kind) {
    this.kind = kind;
    this.asItWas = Seen.all(kind.make());
  }

  public static void main(String[] args) {
    for (Kind kind : Kind.values()) {
      RefusalsTest test = new RefusalsTest(kind);
      test.ofTelling();
      test.ofStones();
      test.ofMasons();
      test.ofStandingAndLeaning();
      test.ofDaysToCome();
      test.ofChoices();
      test.ofFractions();
      test.ofTheRow();
      test.ofTheImage();
    }
    eachIsCounted();
    theyGoOn();
    CHECK.end("RefusalsTest");
  }

  private static BridgeByTwo some() {
    BridgeByTwo x = new BridgeByTwo();
    x.styles(0, 4);
    x.hands(0, 2);
    x.hands(1, 7);
    x.spites(1, 3);
    x.lays(1, 8, 1);
    x.image();
    // k2 of 0 and p7 of 1, three quarrels.
    x.days(2);
    x.lays(2, 3, 0);
    x.row(50);
    x.row(50);
    x.letter('s');
    x.letter('h');
    return x;
  }

  private static BridgeByTwo full() {
    BridgeByTwo x = new BridgeByTwo();
    for (int i = 0; i < 12; i++) {
      x.lays(i % 6, i % 10, i / 2 % 2);
    }
    for (int i = 0; i < 16; i++) {
      x.days(60);
      Told.letters(x, "m0h55;");
      x.row(50 + i);
    }
    x.image();
    x.days(39);
    return x;
  }

  /** Just outside, at the ends of what is taken, and at the ends of int. */
  private static int[] around(int least, int greatest) {
    return new int[] {Integer.MIN_VALUE, Integer.MIN_VALUE + 1, least - 1, least, greatest, greatest + 1,
      Integer.MAX_VALUE - 1, Integer.MAX_VALUE};
  }

  private static boolean out(int v, int least, int greatest) {
    return v < least || v > greatest;
  }

  /** The first refusal that fits: pairs of whether it does and its number, in the order in which they are told. */
  private static int first(Object... pairs) {
    for (int i = 0; i + 1 < pairs.length; i += 2) {
      if ((Boolean) pairs[i]) {
        return (Integer) pairs[i + 1];
      }
    }
    return FINE;
  }

  private void near(String name, int refusal, ToLongFunction<BridgeByTwo> call) {
    ask(name, refusal, refusal, call);
  }

  private void far(String name, int refusal, ToLongFunction<BridgeByTwo> call) {
    ask(name, refusal, 1000000000L - refusal, call);
  }

  private void farLong(String name, int refusal, ToLongFunction<BridgeByTwo> call) {
    ask(name, refusal, 4000000000000000000L - refusal, call);
  }

  private void ask(String name, int refusal, long due, ToLongFunction<BridgeByTwo> call) {
    BridgeByTwo x = kind.make();
    long got = call.applyAsLong(x);
    String where = kind + ": " + name;
    List<Long> refusals = new ArrayList<>(List.of(0L, 0L, 0L, 0L, 0L, 0L));
    if (refusal == FINE) {
      CHECK.so(where + " is not refused", refusals.equals(Seen.refusals(x)));
      return;
    }
    CHECK.due(where, got, due);
    refusals.set(-refusal - 1, 1L);
    CHECK.same(where + ": how many refusals", Seen.refusals(x), refusals);
    CHECK.same(where + " changes nothing", Seen.all(x), asItWas);
  }

  private void ofTelling() {
    for (int c : around(0, 255)) {
      near("letter " + c, first(c < 0, BELOW, c > 255, ROOM, kind == Kind.FULL, ROOM), x -> x.letter(c));
    }
  }

  private void ofStones() {
    int last = kind.stones - 1;
    for (int stone : around(0, last)) {
      for (int what : around(0, 5)) {
        far("stone " + stone + " " + what, first(out(stone, 0, last), NOBODY, out(what, 0, 5), OTHER),
            x -> x.stone(stone, what));
      }
      for (int kindOf : around(0, 5)) {
        for (int figure : around(0, 9)) {
          near("corrects " + stone + " " + kindOf + " " + figure, first(out(stone, 0, last), NOBODY, out(kindOf, 0, 5),
              OTHER, figure < 0, BELOW, figure > 9, ROOM), x -> x.corrects(stone, kindOf, figure));
        }
      }
    }
    for (int joint : around(0, last - 1)) {
      for (int what : around(0, 1)) {
        near("joint " + joint + " " + what, first(out(joint, 0, last - 1), NOBODY, out(what, 0, 1), OTHER),
            x -> x.joint(joint, what));
      }
    }
    for (int n : around(1, kind.stones)) {
      near("takes " + n, first(n < 1, BELOW, n > kind.stones, ROOM), x -> x.takes(n));
    }
    ofLaying();
  }

  private void ofLaying() {
    for (int kindOf : around(0, 5)) {
      for (int figure : around(0, 9)) {
        for (int mason : around(0, 1)) {
          int refusal = first(out(kindOf, 0, 5), OTHER, figure < 0, BELOW, figure > 9, ROOM, out(mason, 0, 1), NOBODY,
              kind.stones >= 12, ROOM);
          near("lays " + kindOf + " " + figure + " " + mason, refusal, x -> x.lays(kindOf, figure, mason));
        }
      }
    }
  }

  private void ofMasons() {
    for (int mason : around(0, 1)) {
      boolean nobody = out(mason, 0, 1);
      for (int what : around(0, 3)) {
        near("mason " + mason + " " + what, first(nobody, NOBODY, out(what, 0, 3), OTHER), x -> x.mason(mason, what));
      }
      for (int style : around(0, 5)) {
        near("styles " + mason + " " + style, first(nobody, NOBODY, out(style, 0, 5), OTHER),
            x -> x.styles(mason, style));
      }
      for (int v : around(0, 9)) {
        int refusal = first(nobody, NOBODY, v < 0, BELOW, v > 9, ROOM);
        near("hands " + mason + " " + v, refusal, x -> x.hands(mason, v));
        near("spites " + mason + " " + v, refusal, x -> x.spites(mason, v));
      }
      near("next " + mason, first(nobody, NOBODY), x -> x.next(mason));
      near("kinds " + mason, first(nobody, NOBODY), x -> x.kinds(mason));
    }
    for (int n : around(1, 60)) {
      near("days " + n, first(n < 1, BELOW, n > 60, ROOM, n > 999 - kind.day, ROOM), x -> x.days(n));
    }
  }

  private void ofStandingAndLeaning() {
    for (int what : around(0, 2)) {
      near("stands " + what, first(out(what, 0, 2), OTHER), x -> x.stands(what));
      near("runs " + what, first(out(what, 0, 2), OTHER), x -> x.runs(what));
    }
    for (int what : around(0, 1)) {
      far("spare " + what, first(out(what, 0, 1), OTHER), x -> x.spare(what));
      far("lean " + what, first(out(what, 0, 1), OTHER), x -> x.lean(what));
      near("up " + what, first(out(what, 0, 1), OTHER), x -> x.up(what));
    }
  }

  private void ofDaysToCome() {
    for (int n : around(0, 60)) {
      for (int what : around(0, 2)) {
        near("then " + n + " " + what, first(n < 0, BELOW, n > 60, ROOM, out(what, 0, 2), OTHER),
            x -> x.then(n, what));
      }
      near("yields " + n, first(n < 0, BELOW, n > 60, ROOM), x -> x.yields(n));
      near("swap " + n, first(n < 0, BELOW, n > 60, ROOM), x -> x.swap(n));
    }
    for (int n : around(0, 30)) {
      near("two " + n, first(n < 0, BELOW, n > 30, ROOM), x -> x.two(n));
    }
  }

  private void ofChoices() {
    for (int mason : around(0, 1)) {
      for (int n : around(0, 20)) {
        for (int what : around(0, 1)) {
          far("best " + mason + " " + n + " " + what, first(out(mason, 0, 1), NOBODY, n < 0, BELOW, n > 20, ROOM,
              out(what, 0, 1), OTHER), x -> x.best(mason, n, what));
        }
      }
    }
    for (int n : around(1, 20)) {
      for (int z : around(0, 0)) {
        for (int what : around(0, 1)) {
          near("lots " + n + " " + z + " " + what, first(n < 1, BELOW, n > 20, ROOM, out(what, 0, 1), OTHER),
              x -> x.lots(n, z, what));
        }
      }
    }
  }

  private void ofFractions() {
    for (int n : around(0, 7)) {
      for (int t : around(2, 20)) {
        for (int part : around(0, 1)) {
          farLong("fever " + n + " " + t + " " + part, first(n < 0, BELOW, t < 2, BELOW, n > 7, ROOM, t > 20, ROOM,
              out(part, 0, 1), OTHER), x -> x.fever(n, t, part));
        }
      }
    }
    for (int part : around(0, 1)) {
      farLong("mean " + part, first(out(part, 0, 1), OTHER), x -> x.mean(part));
    }
  }

  private void ofTheRow() {
    int last = kind.stones - 1;
    for (int stone : around(0, last)) {
      near("whoLaid " + stone, first(out(stone, 0, last), NOBODY), x -> x.whoLaid(stone));
      for (int what : around(0, 1)) {
        near("whatIs " + stone + " " + what, first(out(stone, 0, last), NOBODY, out(what, 0, 1), OTHER),
            x -> x.whatIs(stone, what));
      }
    }
    for (int v : around(0, 99)) {
      near("row " + v, first(v < 0, BELOW, v > 99, ROOM, kind == Kind.FULL, ROOM), x -> x.row(v));
    }
  }

  /** And the calls that refuse nothing. */
  private void ofTheImage() {
    near("on", first(kind == Kind.NEW, STATE), BridgeByTwo::on);
    near("image", FINE, BridgeByTwo::image);
    near("bridge", FINE, BridgeByTwo::bridge);
    near("mend", FINE, BridgeByTwo::mend);
    near("fewest", FINE, BridgeByTwo::fewest);
    near("take", FINE, BridgeByTwo::take);
    near("turnBack", FINE, BridgeByTwo::turnBack);
    near("keystone", FINE, BridgeByTwo::keystone);
    near("mortar", FINE, BridgeByTwo::mortar);
    near("peace", FINE, BridgeByTwo::peace);
    near("judge", FINE, BridgeByTwo::judge);
    near("clear", FINE, BridgeByTwo::clear);
    for (int what : around(0, 17)) {
      near("count " + what, FINE, x -> x.count(what));
    }
  }

  private static void eachIsCounted() {
    BridgeByTwo x = new BridgeByTwo();
    int[] counted = new int[7];
    for (int i = 0; i < 6; i++) {
      x.kinds(2);
      counted[1]++;
      for (int k = 0; k < i; k++) {
        x.runs(3);
        x.mean(2);
        counted[2] += 2;
      }
      if (i % 2 == 0) {
        x.on();
        counted[3]++;
      }
      x.spites(0, -1);
      x.fever(-1, 2, 0);
      counted[4] += 2;
      x.row(100);
      x.best(0, 21, 0);
      x.takes(1);
      counted[6] += 3;
      for (int number = 1; number <= 6; number++) {
        CHECK.due("round " + i + ", count " + (10 + number), x.count(10 + number), counted[number]);
      }
    }
  }

  /** An object is good for 512 calls, all of which may be refused. */
  private static void theyGoOn() {
    BridgeByTwo x = new BridgeByTwo();
    for (int i = 0; i < 511; i++) {
      x.next(2);
    }
    CHECK.due("the 512th call", x.count(11), 511);
  }
}
