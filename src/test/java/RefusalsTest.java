/** What each call refuses, in the order in which it tells it, and that nothing changes but how many there were. */
public final class RefusalsTest {
  private static final Check CHECK = new Check();
  private static final int FAR = 1000000000;
  private static final long FAR_LONG = 4000000000000000000L;
  private static final int LEAST = Integer.MIN_VALUE;
  private static final int MOST = Integer.MAX_VALUE;

  private final BridgeByTwo x;
  private final int[] counted = new int[7];

  private RefusalsTest(BridgeByTwo x) {
    this.x = x;
  }

  public static void main(String[] args) {
    BridgeByTwo full = Told.bridge(Told.repeat("sh51;", 12));
    new RefusalsTest(full).ofStones();
    new RefusalsTest(Told.bridge("sp50;sp50;d01;")).ofMasonsAndDays();
    new RefusalsTest(Told.bridge("sp50;sp50;")).ofQuestions();
    new RefusalsTest(Told.bridge("sp50;sp50;")).ofForesight();
    CHECK.end("RefusalsTest");
  }

  private void refused(String call, long got, int refusal) {
    refused(call, got, refusal, refusal);
  }

  private void refused(String call, long got, int refusal, long due) {
    CHECK.due(call, got, due);
    counted[-refusal]++;
    CHECK.due(call + ": how many", x.count(10 - refusal), counted[-refusal]);
  }

  private void far(String call, long got, int refusal) {
    refused(call, got, refusal, FAR - refusal);
  }

  private void farLong(String call, long got, int refusal) {
    refused(call, got, refusal, FAR_LONG - refusal);
  }

  private void ofStones() {
    far("stone -1", x.stone(-1, 0), -1);
    far("stone 12 9", x.stone(12, 9), -1);
    far("stone least", x.stone(LEAST, 0), -1);
    far("stone 0 -1", x.stone(0, -1), -2);
    far("stone 0 6", x.stone(0, 6), -2);
    refused("joint -1", x.joint(-1, 0), -1);
    refused("joint 11 9", x.joint(11, 9), -1);
    refused("joint most", x.joint(MOST, 0), -1);
    refused("joint 0 -1", x.joint(0, -1), -2);
    refused("joint 0 2", x.joint(0, 2), -2);
    refused("lays 6 -1 2", x.lays(6, -1, 2), -2);
    refused("lays -1 10 2", x.lays(-1, 10, 2), -2);
    refused("lays 0 -1 2", x.lays(0, -1, 2), -4);
    refused("lays 0 10 2", x.lays(0, 10, 2), -6);
    refused("lays 0 0 2", x.lays(0, 0, 2), -1);
    refused("lays 0 0 -1", x.lays(0, 0, -1), -1);
    refused("lays 0 0 0", x.lays(0, 0, 0), -6);
    refused("corrects 12 6 -1", x.corrects(12, 6, -1), -1);
    refused("corrects -1", x.corrects(-1, 0, 0), -1);
    refused("corrects 0 6 -1", x.corrects(0, 6, -1), -2);
    refused("corrects 0 -1 10", x.corrects(0, -1, 10), -2);
    refused("corrects 0 0 -1", x.corrects(0, 0, -1), -4);
    refused("corrects 0 0 10", x.corrects(0, 0, 10), -6);
    refused("takes 0", x.takes(0), -4);
    refused("takes least", x.takes(LEAST), -4);
    refused("takes 13", x.takes(13), -6);
    refused("takes most", x.takes(MOST), -6);
    CHECK.due("stones", x.count(0), 12);
    CHECK.due("figures", x.count(3), 60);
    CHECK.due("by 1", x.count(4), 4095);
    CHECK.due("kinds", x.kinds(1), 8);
  }

  private void ofMasonsAndDays() {
    refused("mason 2 4", x.mason(2, 4), -1);
    refused("mason -1", x.mason(-1, 0), -1);
    refused("mason 0 4", x.mason(0, 4), -2);
    refused("mason 0 -1", x.mason(0, -1), -2);
    refused("styles 2 6", x.styles(2, 6), -1);
    refused("styles -1 0", x.styles(-1, 0), -1);
    refused("styles 0 6", x.styles(0, 6), -2);
    refused("styles 0 -1", x.styles(0, -1), -2);
    refused("hands 2 -1", x.hands(2, -1), -1);
    refused("hands -1 10", x.hands(-1, 10), -1);
    refused("hands 0 -1", x.hands(0, -1), -4);
    refused("hands 0 10", x.hands(0, 10), -6);
    refused("spites 2 -1", x.spites(2, -1), -1);
    refused("spites -1 10", x.spites(-1, 10), -1);
    refused("spites 0 -1", x.spites(0, -1), -4);
    refused("spites 0 10", x.spites(0, 10), -6);
    refused("days 0", x.days(0), -4);
    refused("days least", x.days(LEAST), -4);
    refused("days 61", x.days(61), -6);
    refused("days most", x.days(MOST), -6);
    refused("letter -1", x.letter(-1), -4);
    refused("letter 256", x.letter(256), -6);
    refused("row -1", x.row(-1), -4);
    refused("row 100", x.row(100), -6);
    refused("on", x.on(), -3);
    for (int mason = 0; mason <= 1; mason++) {
      CHECK.due("style", x.mason(mason, 0), 0);
      CHECK.due("hand", x.mason(mason, 1), 5);
      CHECK.due("spite", x.mason(mason, 2), 5);
    }
    CHECK.due("day", x.count(2), 1);
    CHECK.due("row", x.count(6), 0);
    CHECK.due("letters", x.count(7), 0);
    CHECK.due("-5", x.count(15), 0);
  }

  private void ofQuestions() {
    refused("stands 3", x.stands(3), -2);
    refused("stands -1", x.stands(-1), -2);
    far("spare 2", x.spare(2), -2);
    far("spare -1", x.spare(-1), -2);
    far("lean 2", x.lean(2), -2);
    far("lean -1", x.lean(-1), -2);
    refused("up 2", x.up(2), -2);
    refused("up -1", x.up(-1), -2);
    refused("next 2", x.next(2), -1);
    refused("next -1", x.next(-1), -1);
    refused("runs 3", x.runs(3), -2);
    refused("runs -1", x.runs(-1), -2);
    refused("kinds 2", x.kinds(2), -1);
    refused("kinds -1", x.kinds(-1), -1);
    refused("whoLaid 2", x.whoLaid(2), -1);
    refused("whoLaid -1", x.whoLaid(-1), -1);
    refused("whatIs 2 2", x.whatIs(2, 2), -1);
    refused("whatIs -1 0", x.whatIs(-1, 0), -1);
    refused("whatIs 0 2", x.whatIs(0, 2), -2);
    refused("whatIs 0 -1", x.whatIs(0, -1), -2);
    farLong("mean 2", x.mean(2), -2);
    farLong("mean -1", x.mean(-1), -2);
  }

  private void ofForesight() {
    refused("then -1 3", x.then(-1, 3), -4);
    refused("then 61 3", x.then(61, 3), -6);
    refused("then 60 3", x.then(60, 3), -2);
    refused("then 0 -1", x.then(0, -1), -2);
    refused("yields -1", x.yields(-1), -4);
    refused("yields 61", x.yields(61), -6);
    far("best 2 -1 2", x.best(2, -1, 2), -1);
    far("best -1 21 2", x.best(-1, 21, 2), -1);
    far("best 0 -1 2", x.best(0, -1, 2), -4);
    far("best 0 21 2", x.best(0, 21, 2), -6);
    far("best 0 20 2", x.best(0, 20, 2), -2);
    far("best 0 0 -1", x.best(0, 0, -1), -2);
    refused("swap -1", x.swap(-1), -4);
    refused("swap 61", x.swap(61), -6);
    refused("two -1", x.two(-1), -4);
    refused("two 31", x.two(31), -6);
    farLong("fever -1 21 2", x.fever(-1, 21, 2), -4);
    farLong("fever 8 1 2", x.fever(8, 1, 2), -4);
    farLong("fever 8 2 2", x.fever(8, 2, 2), -6);
    farLong("fever 7 21 2", x.fever(7, 21, 2), -6);
    farLong("fever 7 20 2", x.fever(7, 20, 2), -2);
    farLong("fever 0 2 -1", x.fever(0, 2, -1), -2);
    farLong("fever least", x.fever(LEAST, LEAST, LEAST), -4);
    farLong("fever most", x.fever(MOST, MOST, MOST), -6);
    refused("lots 0 0 2", x.lots(0, 0, 2), -4);
    refused("lots 21 0 2", x.lots(21, 0, 2), -6);
    refused("lots 20 0 2", x.lots(20, 0, 2), -2);
    refused("lots 1 0 -1", x.lots(1, 0, -1), -2);
  }
}
