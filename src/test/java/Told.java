/** Makes objects from a bridge's letters. */
final class Told {
  private Told() {
  }

  static BridgeByTwo bridge(String text) {
    BridgeByTwo x = new BridgeByTwo();
    int statements = tell(x, text);
    if (statements < 1) {
      throw new IllegalStateException(text + " is no bridge: " + statements);
    }
    return x;
  }

  static void letters(BridgeByTwo x, String text) {
    for (int i = 0; i < text.length(); i++) {
      x.letter(text.charAt(i));
    }
  }

  /** What bridge() answers to the text. */
  static int tell(BridgeByTwo x, String text) {
    letters(x, text);
    return x.bridge();
  }

  static String repeat(String text, int times) {
    StringBuilder all = new StringBuilder();
    for (int i = 0; i < times; i++) {
      all.append(text);
    }
    return all.toString();
  }

  /** An object with so many quarrels, made by fewer than 300 calls; masons quarrel over plain and heavy ones. */
  static BridgeByTwo quarrelling(int quarrels) {
    BridgeByTwo x = new BridgeByTwo();
    x.styles(1, 3);
    // One corrects from one half of ten quarrels on, the other one from the other half on: 10 of them in 9 days, in one
    // of which both correct. That day shall not go over the number that is asked for.
    int half = quarrels % 10 == 5 ? 5 : 0;
    x.spites(0, 5 - half);
    x.spites(1, half);
    for (int tens = 0; tens < quarrels / 10 - 1; tens++) {
      int stones = x.days(9);
      x.takes(stones - 1);
    }
    while (x.count(1) < quarrels) {
      int stones = x.days(1);
      if (stones > 10) {
        x.takes(stones - 1);
      }
    }
    if (x.count(1) != quarrels) {
      throw new IllegalStateException(x.count(1) + " quarrels, not " + quarrels);
    }
    return x;
  }
}
