/** Makes objects from a bridge's letters. */
final class Told {
  private Told() {
  }

  static BridgeByTwo bridge(String text) {
    BridgeByTwo x = new BridgeByTwo();
    int statements = tell(x, text);
    if (statements < 1) {
      throw new IllegalStateException(text + " is no bridge: " + statements);
    }
    return x;
  }

  /** What bridge() answers to the text. */
  static int tell(BridgeByTwo x, String text) {
    for (int i = 0; i < text.length(); i++) {
      x.letter(text.charAt(i));
    }
    return x.bridge();
  }

  static String repeat(String text, int times) {
    StringBuilder all = new StringBuilder();
    for (int i = 0; i < times; i++) {
      all.append(text);
    }
    return all.toString();
  }
}
