/** Counts the answers that are not due and tells them. */
final class Check {
  private int wrong;
  private int asked;

  void due(String call, long got, long want) {
    so(call + " answered " + got + ", due is " + want, got == want);
  }

  void same(String what, Object got, Object want) {
    so(what + ": " + got + ", due is " + want, got.equals(want));
  }

  void so(String what, boolean is) {
    asked++;
    if (!is) {
      wrong++;
      System.out.println(what);
    }
  }

  void end(String name) {
    System.out.println(name + ": " + asked + " answers, " + wrong + " not as due");
    if (wrong != 0 || asked == 0) {
      System.exit(1);
    }
  }
}
