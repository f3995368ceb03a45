import java.util.ArrayList;
import java.util.List;

/** All that an object shows of itself, so that two can be told apart. */
final class Seen {
  private Seen() {
  }

  /** Stones, masons, quarrels and the day, asked by some 60 calls of which none is refused. */
  static List<Long> state(BridgeByTwo x) {
    List<Long> seen = new ArrayList<>();
    for (int what = 0; what <= 5; what++) {
      seen.add((long) x.count(what));
    }
    for (int i = 0; i < x.count(0); i++) {
      for (int what = 0; what <= 2; what++) {
        seen.add((long) x.stone(i, what));
      }
    }
    for (int mason = 0; mason <= 1; mason++) {
      for (int what = 0; what <= 3; what++) {
        seen.add((long) x.mason(mason, what));
      }
    }
    return seen;
  }

  static List<Long> refusals(BridgeByTwo x) {
    List<Long> seen = new ArrayList<>();
    for (int what = 11; what <= 16; what++) {
      seen.add((long) x.count(what));
    }
    return seen;
  }

  /** The state, the row, the letters, the image; the object is not as it was behind this. */
  static List<Long> all(BridgeByTwo x) {
    List<Long> seen = state(x);
    seen.add((long) x.count(6));
    seen.add((long) x.judge());
    seen.add((long) x.count(7));
    // The letters may lack a figure, by whom and the end.
    x.letter('4');
    x.letter('1');
    x.letter(';');
    seen.add((long) x.bridge());
    seen.addAll(state(x));
    seen.add((long) x.on());
    seen.addAll(state(x));
    return seen;
  }
}
