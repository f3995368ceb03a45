/** Promises 19 to 23: each boundary that the document names of other stones than there are. */
public final class RemediesEdgesTest {
  private static final Check CHECK = new Check();
  private static final String KINDS = "pewhkr";

  public static void main(String[] args) {
    nextOnNoStones();
    nextOfEachKind();
    nextAtALeanOfSix();
    nextWithoutAny();
    nextByATold();
    nextWithoutRoom();
    nextIsOfFigureFive();
    mendWhatStands();
    mendTheFirst();
    mendTheLast();
    mendByNone();
    mendKeepsFigureAndWhoLaid();
    mendLoadAndLeanTogether();
    fewestOfWhatStands();
    fewestFirstAndLast();
    fewestAll();
    fewestOfSeveralTheLeast();
    fewestToALeanOfSix();
    fewestAskedAnew();
    fewestKeepsWhoLaid();
    fewestHasFigureNine();
    takeNone();
    takeToTheLoad();
    takeAllButOne();
    takeToTheLean();
    turnBackNone();
    turnBackTheFirstAndTheLast();
    turnBackOnlyForMore();
    turnBackOfSeveralTheLeast();
    CHECK.end("RemediesEdgesTest");
  }

  private static String keys(int n) {
    return Told.repeat("sk90;", n);
  }

  private static void next(String text, int mason, int due) {
    CHECK.due("next by " + mason + " to " + text, Told.bridge(text).next(mason), due);
  }

  private static void nextOnNoStones() {
    BridgeByTwo x = new BridgeByTwo();
    CHECK.due("by 0", x.next(0), 0);
    CHECK.due("by 1", x.next(1), 0);
    CHECK.due("by nobody", x.next(2), -1);
    CHECK.due("by nobody", x.next(-1), -1);
    CHECK.due("no stone came", x.count(0), 0);
  }

  /** The last stone holds so little that only one of its own kind is better. */
  private static void nextOfEachKind() {
    int[] figures = {0, 0, 1, 0, 0, 0};
    for (int kind = 0; kind < 6; kind++) {
      for (int by = 0; by <= 1; by++) {
        next("s" + KINDS.charAt(kind) + figures[kind] + "0;", by, kind);
      }
    }
  }

  private static void nextAtALeanOfSix() {
    // An east one, to 6 and to 7; e0 beside e5 holds 4, beside others 1.
    next("se90;se90;se00;", 0, 1);
    next("se90;se90;se50;se00;", 0, 0);
    // A west one, to -6 and to -7; w0 beside w5 holds 3, beside others nothing.
    next("sw90;sw90;sw00;", 0, 2);
    next("sw90;sw90;sw50;sw00;", 0, 0);
    // A rough one, to -6 and to -7.
    next("sr00;sr00;", 0, 5);
    next("sr60;sr00;", 0, 0);
    // A lean of 7 on the way does not matter: back to 6 by a west one, or to 5 by a rough one, of which it is the least.
    next("se90;se90;se90;se00;", 0, 2);
    next("se90;se90;se90;se90;", 0, 5);
    next("sw90;sw90;sw90;sw00;", 0, 1);
  }

  private static void nextWithoutAny() {
    next("se90;se90;se90;se90;se00;", 0, -9);
    next("se90;se90;se90;se90;se00;", 1, -9);
    next("sw90;sw90;sw90;sw90;", 0, -9);
  }

  /** Joint 0 is 5 over; of h2 and p5 that is so by one mason, by two only h5 holds enough. */
  private static void nextByATold() {
    next("sh10;sh20;", 0, 0);
    next("sh10;sh20;", 1, 3);
    next("sh11;sh21;", 0, 3);
    next("sh11;sh21;", 1, 0);
  }

  private static void nextWithoutRoom() {
    // Of 13 stones joint 0 has a load of 7, joint 11 one of 1: h9 beside p5 is 5 over.
    BridgeByTwo x = Told.bridge(Told.repeat("sp90;", 11) + "sh90;");
    CHECK.due("a thirteenth", x.next(0), 3);
    CHECK.due("12 stones still", x.count(0), 12);
    CHECK.due("nothing is refused", x.count(16), 0);
  }

  private static void nextIsOfFigureFive() {
    // Joint 0 is 6 over; beside h9 p5 is 5 over (p6 would be 6), h5 14.
    next("sp70;sh90;", 0, 3);
    // Joint 0 is 10 over; beside k9 p5 is 5 over, h5 11 (h4 would be 9), k5 17.
    next("sh50;sk90;", 0, 3);
  }

  private static void mend(String text, int due) {
    CHECK.due("mend " + text, Told.bridge(text).mend(), due);
  }

  private static void mendWhatStands() {
    CHECK.due("none", new BridgeByTwo().mend(), -9);
    mend("sw00;", -9);
    mend("sw10;sk90;", -9);
    mend("se90;se90;se90;", -9);
  }

  private static void mendTheFirst() {
    // Lean 8: without the first one's it is 6.
    mend("se90;se90;se90;se90;", 0);
    // w0 beside k9: as a plain one it holds 1.
    mend("sw00;sk90;", 0);
    // Figure 0 by another one: a heavy one holds 1 of 2, a key 4.
    mend("sk91;sr00;sk91;", 14);
  }

  /** Only the last stone of twelve can be mended: one of another kind ahead of it would lean too far. */
  private static void mendTheLast() {
    String eleven = keys(8) + "sr90;sw90;sk90;";
    mend(eleven + "sw00;", 110);
    mend(eleven + "sw01;", 113);
  }

  private static void mendByNone() {
    mend("sh90;sw00;sp90;sw00;sh90;", -9);
    mend("sr90;sr90;sr90;sr90;sr90;sr90;", -9);
    BridgeByTwo x = Told.bridge("sh90;sw00;sp90;sw00;sh90;");
    CHECK.due("none", x.mend(), -9);
    CHECK.due("nothing is refused", x.count(13), 0);
    CHECK.due("the stones stay", x.stone(1, 0), 2);
  }

  private static void mendKeepsFigureAndWhoLaid() {
    // Its figure is 0: plain 1 of 2, heavy 2, 1 less if laid by two.
    mend("sk90;sw00;sk90;", 13);
    mend("sk90;sw01;sk90;", 14);
    // As a plain one with figure 1 it holds 2.
    mend("sk90;sr10;sk90;", 10);
  }

  private static void mendLoadAndLeanTogether() {
    // The rough one holds 0 of 1 and leans to -8.
    mend("sr90;sr90;sr00;", 0);
    // A lean of 7 and a joint that lacks, far from each other: a west one at 1 mends both; with a load of 4 it does not.
    mend("sw00;sk90;se90;se90;se90;se90;", 12);
    mend("sw00;sk90;sk90;sk90;se90;se90;se90;se90;", -9);
  }

  private static void fewest(String text, int due) {
    CHECK.due("fewest of " + text, Told.bridge(text).fewest(), due);
  }

  private static void fewestOfWhatStands() {
    CHECK.due("none", new BridgeByTwo().fewest(), 0);
    fewest("sr90;", 0);
    fewest(keys(12), 0);
  }

  private static void fewestFirstAndLast() {
    fewest("sw00;sk90;", 1);
    fewest("sw00;" + keys(11), 1);
    fewest(keys(11) + "sw00;", 2048);
    // 0, 1 and 10, 11: each beside the other would break by itself.
    fewest("sw00;sr01;" + keys(8) + "sr00;sw01;", 1 + 2 + 1024 + 2048);
  }

  /** A plain one beside what is left would find nothing that holds. */
  private static void fewestAll() {
    fewest(Told.repeat("sw00;sw01;", 6), 4095);
  }

  private static void fewestOfSeveralTheLeast() {
    fewest("se90;se90;se90;se90;", 1);
    fewest("se90;se90;se90;se90;se90;", 3);
    // The west ones are not among the least: without the two of the first three it leans no more than 6.
    fewest("sw90;se90;se90;se90;se90;se90;", 2);
  }

  private static void fewestToALeanOfSix() {
    // To 6 and on from there; 7 would be too far.
    fewest("se90;se90;se90;se90;sp90;", 1);
    fewest("sw90;sw90;sw90;sw90;sp90;", 1);
    fewest("se90;se90;se90;se90;se00;", 3);
    fewest("sw90;sw90;sw90;sw90;sw00;", 3);
    fewest("se90;se90;se90;se00;sw90;", 1);
    fewest("sr90;sr90;sr90;sk90;", 1);
    // It stays at 6 by the stone that becomes plain, and goes on from there.
    fewest("se90;se90;se90;sw00;sk90;", 8);
    fewest("sw90;sw90;sw90;sp01;sk90;", 8);
  }

  private static void fewestAskedAnew() {
    BridgeByTwo x = Told.bridge("sw90;sw90;sw90;");
    CHECK.due("it stands at -6", x.fewest(), 0);
    Told.tell(x, "u3;se90;se90;se90;se90;");
    CHECK.due("from 0, not from there", x.fewest(), 1);
    Told.tell(x, "u4;");
    CHECK.due("none", x.fewest(), 0);
  }

  private static void fewestKeepsWhoLaid() {
    // p9 of 1 beside e0 of 0 holds nothing: both become plain ones.
    fewest("sk90;sw01;se00;", 6);
    fewest("sk90;sw00;se00;", 2);
  }

  private static void fewestHasFigureNine() {
    // p9 of 0 beside k9 of 1 holds 9; 6 are needed, figure 5 would hold 5.
    fewest("sw00;" + Told.repeat("sk91;", 11), 1);
  }

  private static void take(String text, int due) {
    CHECK.due("take of " + text, Told.bridge(text).take(), due);
  }

  private static void takeNone() {
    CHECK.due("none", new BridgeByTwo().take(), 0);
    take("sr90;", 0);
    take(keys(12), 0);
    take("sw10;sk90;", 0);
  }

  private static void takeToTheLoad() {
    // p0 beside p0 holds 4: eight stones are not too many, nine are.
    take(Told.repeat("sp00;", 8), 0);
    take(Told.repeat("sp00;", 9), 1);
    take(Told.repeat("sp00;", 12), 4);
  }

  private static void takeAllButOne() {
    take("sw00;sk90;", 1);
    take("sw00;" + keys(11), 11);
    BridgeByTwo x = Told.bridge("sw00;" + keys(11));
    x.take();
    CHECK.due("12 stones still", x.count(0), 12);
  }

  private static void takeToTheLean() {
    take("se90;se90;se90;se00;", 1);
    take(Told.repeat("se90;", 12), 9);
    take(Told.repeat("sr90;", 12), 10);
    take("se90;se90;se90;se90;sw90;sw90;", 3);
  }

  private static void turnBack(String text, int due) {
    CHECK.due("turn back " + text, Told.bridge(text).turnBack(), due);
  }

  private static void turnBackNone() {
    CHECK.due("none", new BridgeByTwo().turnBack(), -9);
    turnBack("sp00;", -9);
    turnBack("sp00;sp01;", -9);
    turnBack("sp50;sh50;", -9);
    turnBack(Told.repeat("sp50;sp51;", 6), -9);
  }

  private static void turnBackTheFirstAndTheLast() {
    turnBack("sp51;sh50;", 0);
    // Joint 0 is 2 over, joint 1 is 1 over: with stone 1 turned joint 0 would be, too.
    turnBack("sk90;sh10;sp21;", 2);
    turnBack(keys(10) + "sh10;sp21;", 11);
    BridgeByTwo x = Told.bridge(keys(10) + "sh10;sp21;");
    x.turnBack();
    CHECK.due("by 1 still", x.stone(11, 2), 1);
  }

  private static void turnBackOnlyForMore() {
    // Both joints are 1 less; none is better by the first or the last alone; by the middle one both are.
    turnBack("sp50;sh01;sw10;", 1);
    // w0 beside k9 holds nothing by one nor by two.
    turnBack("sw00;sk91;", -9);
    // p0: 1 by one, nothing by two.
    turnBack("sp00;sk91;", 0);
    // Joint 1 of one mason is the least, whatever is done to joint 0.
    turnBack("sk90;sh91;sw11;", -9);
  }

  private static void turnBackOfSeveralTheLeast() {
    turnBack("sp50;sh51;", 0);
    // Stone 1 as well as stone 2: joint 0 is of one kind by whomever.
    turnBack("sk90;sk90;sp51;", 1);
    turnBack("sk90;sk91;sp50;", 1);
  }
}
