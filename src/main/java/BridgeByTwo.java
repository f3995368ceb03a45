/**
 * A bridge of stones one behind the other, laid by a mason of the day (0) and one of the night (1),
 * and the answers to what may be asked about it. ../shared/DOC.md tells what each call promises.
 */
public final class BridgeByTwo {
  private static final int PLAIN = 0;
  private static final int EAST = 1;
  private static final int WEST = 2;
  private static final int HEAVY = 3;
  private static final int KEY = 4;
  private static final int ROUGH = 5;
  private static final int KINDS = 6;
  private static final String KIND_LETTERS = "pewhkr";

  private static final int OF_DAY = 0;
  private static final int OF_NIGHT = 1;

  private static final int MOST_STONES = 12;
  private static final int MOST_FIGURE = 9;
  private static final int FIGURES = 10;
  private static final int FARTHEST_LEAN = 6;
  private static final int MOST_DAY = 999;
  private static final int MOST_QUARRELS = 999;
  private static final int MOST_DAYS = 60;
  private static final int MOST_LETTERS = 96;
  private static final int MOST_LETTER = 255;
  private static final int MOST_TOLD = 16;
  private static final int MOST_TOLD_NUMBER = 99;
  private static final int TOLD_UPRIGHT = 50;

  private static final int NONE = -9;

  private static final int FINE = 0;
  private static final int NOBODY = -1;
  private static final int OTHER = -2;
  private static final int STATE = -3;
  private static final int BELOW = -4;
  private static final int ROOM = -6;
  private static final int REFUSALS = 6;
  private static final int FAR = 1000000000;
  private static final long FAR_LONG = 4000000000000000000L;

  private static final int STRAY_FAULT = -1000;
  private static final int WRONG_FAULT = -2000;

  private final Bridge now = new Bridge();
  private final Bridge imaged = new Bridge();
  private boolean hasImage;
  private final Bridge trial = new Bridge();
  private final Letters letters = new Letters();
  private final Row told = new Row();
  private final Foresight foresight = new Foresight(now);
  private final Remedies remedies = new Remedies(now.stones);
  private final int[] refused = new int[REFUSALS + 1];

  public BridgeByTwo() {
  }

  public int letter(int c) {
    int refusal = outside(c, 0, MOST_LETTER);
    if (refusal != FINE) {
      return refuse(refusal);
    }
    if (letters.isFull()) {
      return refuse(ROOM);
    }
    letters.add(c);
    return letters.number();
  }

  /** All of the text comes or nothing: it is done on a copy, which then takes the place of what is now. */
  public int bridge() {
    int stray = letters.firstStray();
    trial.become(now);
    int wrong = stray == NONE ? letters.firstWrong(trial) : NONE;
    int statements = letters.statements();
    letters.forget();
    if (stray != NONE) {
      return STRAY_FAULT - stray;
    }
    if (wrong != NONE) {
      return WRONG_FAULT - wrong;
    }
    now.become(trial);
    return statements;
  }

  public int stone(int stone, int what) {
    if (!now.stones.has(stone)) {
      return refuseFar(NOBODY);
    }
    switch (what) {
      case 0:
        return now.stones.kindOf(stone);
      case 1:
        return now.stones.figureOf(stone);
      case 2:
        return now.stones.layerOf(stone);
      case 3:
        return now.stones.holdOf(stone);
      case 4:
        return now.stones.leanOf(stone);
      case 5:
        return now.stones.leanUpTo(stone);
      default:
        return refuseFar(OTHER);
    }
  }

  public int joint(int joint, int what) {
    if (!now.stones.hasJoint(joint)) {
      return refuse(NOBODY);
    }
    switch (what) {
      case 0:
        return now.stones.heldBy(joint);
      case 1:
        return now.stones.loadOn(joint);
      default:
        return refuse(OTHER);
    }
  }

  public int mason(int mason, int what) {
    if (!isMason(mason)) {
      return refuse(NOBODY);
    }
    switch (what) {
      case 0:
        return now.masonOf(mason).style;
      case 1:
        return now.masonOf(mason).hand;
      case 2:
        return now.masonOf(mason).spite;
      case 3:
        return now.stones.shareOf(mason);
      default:
        return refuse(OTHER);
    }
  }

  public int lays(int kind, int figure, int mason) {
    if (!isKind(kind)) {
      return refuse(OTHER);
    }
    int refusal = outside(figure, 0, MOST_FIGURE);
    if (refusal != FINE) {
      return refuse(refusal);
    }
    if (!isMason(mason)) {
      return refuse(NOBODY);
    }
    if (!now.stones.hasRoom()) {
      return refuse(ROOM);
    }
    now.stones.add(kind, figure, mason);
    return now.stones.number() - 1;
  }

  public int corrects(int stone, int kind, int figure) {
    if (!now.stones.has(stone)) {
      return refuse(NOBODY);
    }
    if (!isKind(kind)) {
      return refuse(OTHER);
    }
    int refusal = outside(figure, 0, MOST_FIGURE);
    if (refusal != FINE) {
      return refuse(refusal);
    }
    int before = 10 * now.stones.kindOf(stone) + now.stones.figureOf(stone);
    now.stones.remake(stone, kind, figure);
    return before;
  }

  public int takes(int n) {
    int refusal = outside(n, 1, now.stones.number());
    if (refusal != FINE) {
      return refuse(refusal);
    }
    now.stones.takeAway(n);
    return now.stones.number();
  }

  public int styles(int mason, int kind) {
    if (!isMason(mason)) {
      return refuse(NOBODY);
    }
    if (!isKind(kind)) {
      return refuse(OTHER);
    }
    int before = now.masonOf(mason).style;
    now.masonOf(mason).style = kind;
    return before;
  }

  public int hands(int mason, int v) {
    int refusal = refusalOfTrait(mason, v);
    if (refusal != FINE) {
      return refuse(refusal);
    }
    int before = now.masonOf(mason).hand;
    now.masonOf(mason).hand = v;
    return before;
  }

  public int spites(int mason, int v) {
    int refusal = refusalOfTrait(mason, v);
    if (refusal != FINE) {
      return refuse(refusal);
    }
    int before = now.masonOf(mason).spite;
    now.masonOf(mason).spite = v;
    return before;
  }

  public int days(int n) {
    int refusal = outside(n, 1, MOST_DAYS);
    if (refusal != FINE) {
      return refuse(refusal);
    }
    if (!now.hasTimeFor(n)) {
      return refuse(ROOM);
    }
    now.passDays(n);
    return now.stones.number();
  }

  public int stands(int what) {
    switch (what) {
      case 0:
        return oneIf(now.stones.stand());
      case 1:
        return now.stones.firstBreak();
      case 2:
        return now.stones.firstLeaning();
      default:
        return refuse(OTHER);
    }
  }

  public int spare(int what) {
    switch (what) {
      case 0:
        return now.stones.leastSpare();
      case 1:
        return now.stones.weakestJoint();
      default:
        return refuseFar(OTHER);
    }
  }

  public int lean(int what) {
    switch (what) {
      case 0:
        return now.stones.leanAtEnd();
      case 1:
        return now.stones.farthestLean();
      default:
        return refuseFar(OTHER);
    }
  }

  public int then(int n, int what) {
    int refusal = outside(n, 0, MOST_DAYS);
    if (refusal != FINE) {
      return refuse(refusal);
    }
    switch (what) {
      case 0:
        return foresight.behind(n).stones.number();
      case 1:
        return foresight.behind(n).quarrels;
      case 2:
        return oneIf(foresight.behind(n).stones.stand());
      default:
        return refuse(OTHER);
    }
  }

  public int up(int what) {
    switch (what) {
      case 0:
        return foresight.dayWhenUp();
      case 1:
        return foresight.dayOfFall();
      default:
        return refuse(OTHER);
    }
  }

  public int next(int mason) {
    if (!isMason(mason)) {
      return refuse(NOBODY);
    }
    return remedies.bestKindOfOneMore(mason);
  }

  public int mend() {
    return remedies.firstMending();
  }

  public int fewest() {
    return remedies.fewestToPlain();
  }

  public int take() {
    return remedies.fewestToTake();
  }

  public int turnBack() {
    return remedies.bestToTurn();
  }

  public int runs(int what) {
    switch (what) {
      case 0:
        return now.stones.runsOfOne();
      case 1:
        return now.stones.longestRun();
      case 2:
        return now.stones.agreedJoints();
      default:
        return refuse(OTHER);
    }
  }

  public int kinds(int mason) {
    if (!isMason(mason)) {
      return refuse(NOBODY);
    }
    return now.stones.kindBitsOf(mason);
  }

  public int keystone() {
    return now.stones.strongest();
  }

  public int mortar() {
    return now.stones.lackOfAll();
  }

  public int yields(int n) {
    int refusal = outside(n, 0, MOST_DAYS);
    if (refusal != FINE) {
      return refuse(refusal);
    }
    return foresight.whoHadBetterYield(n);
  }

  public int best(int mason, int n, int what) {
    if (!isMason(mason)) {
      return refuseFar(NOBODY);
    }
    int refusal = outside(n, 0, 20);
    if (refusal != FINE) {
      return refuseFar(refusal);
    }
    switch (what) {
      case 0:
        return foresight.bestStyle(mason, n);
      case 1:
        return foresight.spareWithStyle(mason, foresight.bestStyle(mason, n), n);
      default:
        return refuseFar(OTHER);
    }
  }

  public int peace() {
    return foresight.dayOfPeace();
  }

  public int swap(int n) {
    int refusal = outside(n, 0, MOST_DAYS);
    if (refusal != FINE) {
      return refuse(refusal);
    }
    return oneIf(foresight.swappedLayMore(n));
  }

  public int two(int n) {
    int refusal = outside(n, 0, 30);
    if (refusal != FINE) {
      return refuse(refusal);
    }
    return foresight.firstSettledPair(n);
  }

  public long fever(int n, int t, int part) {
    if (n < 0 || t < 2) {
      return refuseLong(BELOW);
    }
    if (n > 7 || t > 20) {
      return refuseLong(ROOM);
    }
    if (!isPart(part)) {
      return refuseLong(OTHER);
    }
    return inLeastTerms(foresight.standingWays(n, t), power(t, n), part);
  }

  public long mean(int part) {
    if (!isPart(part)) {
      return refuseLong(OTHER);
    }
    return inLeastTerms(now.stones.sumOfFigures(), now.stones.number(), part);
  }

  public int whoLaid(int stone) {
    if (!now.stones.has(stone)) {
      return refuse(NOBODY);
    }
    return remedies.layersThatFit(stone, told);
  }

  public int whatIs(int stone, int what) {
    if (!now.stones.has(stone)) {
      return refuse(NOBODY);
    }
    switch (what) {
      case 0:
        return remedies.kindsThatFit(stone, told);
      case 1:
        return remedies.figuresThatFit(stone, told);
      default:
        return refuse(OTHER);
    }
  }

  public int row(int v) {
    int refusal = outside(v, 0, MOST_TOLD_NUMBER);
    if (refusal != FINE) {
      return refuse(refusal);
    }
    if (told.isFull()) {
      return refuse(ROOM);
    }
    told.add(v);
    return told.number();
  }

  public int judge() {
    int answer = told.firstFalseLean(now.stones);
    told.forget();
    return answer;
  }

  public int clear() {
    int before = told.number();
    told.forget();
    return before;
  }

  public int lots(int n, int z, int what) {
    int refusal = outside(n, 1, 20);
    if (refusal != FINE) {
      return refuse(refusal);
    }
    switch (what) {
      case 0:
        return foresight.standingByLot(n, z);
      case 1:
        return foresight.quarrelsByLot(n, z);
      default:
        return refuse(OTHER);
    }
  }

  public int image() {
    imaged.become(now);
    hasImage = true;
    return now.day;
  }

  public int on() {
    if (!hasImage) {
      return refuse(STATE);
    }
    now.become(imaged);
    return now.day;
  }

  public int count(int what) {
    switch (what) {
      case 0:
        return now.stones.number();
      case 1:
        return now.quarrels;
      case 2:
        return now.day;
      case 3:
        return now.stones.sumOfFigures();
      case 4:
        return now.stones.bitsLaidBy(OF_NIGHT);
      case 5:
        return now.stones.bitsOfLacking();
      case 6:
        return told.number();
      case 7:
        return letters.number();
      default:
        return between(what, 11, 10 + REFUSALS) ? refused[what - 10] : NONE;
    }
  }

  private int refuse(int refusal) {
    int number = -refusal;
    if (between(number, 1, REFUSALS)) {
      refused[number]++;
    }
    return refusal;
  }

  /** For answers that may be below 0 themselves. */
  private int refuseFar(int refusal) {
    return FAR - refuse(refusal);
  }

  private long refuseLong(int refusal) {
    return FAR_LONG - refuse(refusal);
  }

  private static int refusalOfTrait(int mason, int v) {
    return isMason(mason) ? outside(v, 0, 9) : NOBODY;
  }

  private static int outside(int v, int least, int greatest) {
    if (v < least) {
      return BELOW;
    }
    return v > greatest ? ROOM : FINE;
  }

  private static boolean between(int v, int least, int greatest) {
    return v >= least && v <= greatest;
  }

  private static boolean isMason(int mason) {
    return mason == OF_DAY || mason == OF_NIGHT;
  }

  private static boolean isKind(int kind) {
    return between(kind, 0, KINDS - 1);
  }

  private static boolean isPart(int part) {
    return part == 0 || part == 1;
  }

  private static int otherMason(int mason) {
    return mason == OF_DAY ? OF_NIGHT : OF_DAY;
  }

  private static int oneIf(boolean so) {
    return so ? 1 : 0;
  }

  private static boolean hasBit(int bits, int place) {
    return (bits >> place & 1) == 1;
  }

  private static long power(int base, int times) {
    long product = 1;
    for (int i = 0; i < times; i++) {
      product *= base;
    }
    return product;
  }

  /** Part 0 is above the line, 1 below it; without anything below it, it is 0 by 1. */
  private static long inLeastTerms(long above, long below, int part) {
    if (above == 0 || below == 0) {
      return part == 0 ? 0 : 1;
    }
    long divisor = greatestDivisor(above, below);
    if (divisor == 0) {
      return NONE;
    }
    return part == 0 ? above / divisor : below / divisor;
  }

  private static long greatestDivisor(long one, long other) {
    // Two longs are through in fewer than 100 steps.
    for (int step = 0; step < 100 && other != 0; step++) {
      long rest = one % other;
      one = other;
      other = rest;
    }
    return one;
  }

  /** The stones in their order, and what holds and leans by them alone. */
  private static final class Stones {
    // One place more than there is room for: a stone more is thought of on a full bridge, too.
    private static final int PLACES = MOST_STONES + 1;

    private final int[] kinds = new int[PLACES];
    private final int[] figures = new int[PLACES];
    private final int[] layers = new int[PLACES];
    private int number;

    void become(Stones other) {
      for (int i = 0; i < other.number && i < PLACES; i++) {
        kinds[i] = other.kinds[i];
        figures[i] = other.figures[i];
        layers[i] = other.layers[i];
      }
      number = other.number;
    }

    void add(int kind, int figure, int mason) {
      if (number < 0 || number >= PLACES) {
        return;
      }
      kinds[number] = kind;
      figures[number] = figure;
      layers[number] = mason;
      number++;
    }

    void remake(int stone, int kind, int figure) {
      if (has(stone)) {
        kinds[stone] = kind;
        figures[stone] = figure;
      }
    }

    void creditTo(int stone, int mason) {
      if (has(stone)) {
        layers[stone] = mason;
      }
    }

    void takeAway(int n) {
      number = Math.max(number - n, 0);
    }

    boolean isLastOfOther(int mason, int style) {
      int last = number - 1;
      return last >= 0 && last < PLACES && layers[last] != mason && kinds[last] != style;
    }

    void remakeLast(int kind, int figure, int mason) {
      int last = number - 1;
      if (last >= 0 && last < PLACES) {
        kinds[last] = kind;
        figures[last] = figure;
        layers[last] = mason;
      }
    }

    int number() {
      return number;
    }

    boolean hasRoom() {
      return number < MOST_STONES;
    }

    boolean has(int stone) {
      return stone >= 0 && stone < number && stone < PLACES;
    }

    int kindOf(int stone) {
      return has(stone) ? kinds[stone] : NONE;
    }

    int figureOf(int stone) {
      return has(stone) ? figures[stone] : NONE;
    }

    int layerOf(int stone) {
      return has(stone) ? layers[stone] : NONE;
    }

    int holdOf(int stone) {
      if (!has(stone)) {
        return 0;
      }
      int plain = figures[stone] + 1;
      switch (kinds[stone]) {
        case WEST:
          return plain - 1;
        case HEAVY:
          return 2 * plain;
        case KEY:
          return 2 * plain + 3;
        case ROUGH:
          return (plain - 1) / 2;
        default:
          return plain;
      }
    }

    int leanOf(int stone) {
      if (!has(stone)) {
        return 0;
      }
      int east = figures[stone] > 5 ? 2 : 1;
      switch (kinds[stone]) {
        case EAST:
          return east;
        case WEST:
          return -east;
        case ROUGH:
          return -east - 1;
        default:
          return 0;
      }
    }

    int leanUpTo(int stone) {
      int lean = 0;
      for (int i = 0; i <= stone && i < number; i++) {
        lean += leanOf(i);
      }
      return lean;
    }

    int leanAtEnd() {
      return leanUpTo(number - 1);
    }

    int farthestLean() {
      int lean = 0;
      int farthest = 0;
      for (int i = 0; i < number; i++) {
        lean += leanOf(i);
        farthest = Math.max(farthest, Math.abs(lean));
      }
      return farthest;
    }

    int firstLeaning() {
      int lean = 0;
      for (int i = 0; i < number; i++) {
        lean += leanOf(i);
        if (Math.abs(lean) > FARTHEST_LEAN) {
          return i;
        }
      }
      return NONE;
    }

    int joints() {
      return number > 1 ? number - 1 : 0;
    }

    boolean hasJoint(int joint) {
      return joint >= 0 && joint < number - 1 && joint < PLACES - 1;
    }

    boolean isOfOneKind(int joint) {
      return hasJoint(joint) && kinds[joint] == kinds[joint + 1];
    }

    boolean isLaidByTwo(int joint) {
      return hasJoint(joint) && layers[joint] != layers[joint + 1];
    }

    int heldBy(int joint) {
      if (!hasJoint(joint)) {
        return 0;
      }
      int lesser = Math.min(holdOf(joint), holdOf(joint + 1));
      if (kinds[joint] == kinds[joint + 1]) {
        return lesser + 3;
      }
      return layers[joint] == layers[joint + 1] ? lesser : Math.max(lesser - 1, 0);
    }

    int loadOn(int joint) {
      return (number - 1 - joint) / 2 + 1;
    }

    int spareOf(int joint) {
      return heldBy(joint) - loadOn(joint);
    }

    int firstBreak() {
      for (int joint = 0; joint < joints(); joint++) {
        if (spareOf(joint) < 0) {
          return joint;
        }
      }
      return NONE;
    }

    boolean stand() {
      return firstBreak() == NONE && firstLeaning() == NONE;
    }

    int leastSpare() {
      int least = joints() == 0 ? 0 : spareOf(0);
      for (int joint = 1; joint < joints(); joint++) {
        least = Math.min(least, spareOf(joint));
      }
      return least;
    }

    int weakestJoint() {
      int least = leastSpare();
      for (int joint = 0; joint < joints(); joint++) {
        if (spareOf(joint) == least) {
          return joint;
        }
      }
      return NONE;
    }

    int lackOfAll() {
      int lack = 0;
      for (int joint = 0; joint < joints(); joint++) {
        lack += Math.max(-spareOf(joint), 0);
      }
      return lack;
    }

    int bitsOfLacking() {
      int bits = 0;
      for (int joint = 0; joint < joints(); joint++) {
        bits |= oneIf(spareOf(joint) < 0) << joint;
      }
      return bits;
    }

    int strongest() {
      int strongest = NONE;
      int most = 0;
      for (int i = 0; i < number; i++) {
        int hold = holdOf(i);
        if (strongest == NONE || hold > most) {
          strongest = i;
          most = hold;
        }
      }
      return strongest;
    }

    int sumOfFigures() {
      int sum = 0;
      for (int i = 0; i < number; i++) {
        sum += figureOf(i);
      }
      return sum;
    }

    int bitsLaidBy(int mason) {
      int bits = 0;
      for (int i = 0; i < number; i++) {
        bits |= oneIf(layerOf(i) == mason) << i;
      }
      return bits;
    }

    int shareOf(int mason) {
      return Integer.bitCount(bitsLaidBy(mason));
    }

    int kindBitsOf(int mason) {
      int bits = 0;
      for (int i = 0; i < number; i++) {
        if (layerOf(i) == mason) {
          bits |= 1 << kindOf(i);
        }
      }
      return bits;
    }

    int runsOfOne() {
      int runs = Math.min(number, 1);
      for (int joint = 0; joint < joints(); joint++) {
        runs += oneIf(isLaidByTwo(joint));
      }
      return runs;
    }

    int longestRun() {
      int run = Math.min(number, 1);
      int longest = run;
      for (int joint = 0; joint < joints(); joint++) {
        run = isLaidByTwo(joint) ? 1 : run + 1;
        longest = Math.max(longest, run);
      }
      return longest;
    }

    int agreedJoints() {
      int agreed = 0;
      for (int joint = 0; joint < joints(); joint++) {
        agreed += oneIf(isOfOneKind(joint) && isLaidByTwo(joint));
      }
      return agreed;
    }
  }

  /** What a mason is like. */
  private static final class Mason {
    private int style = PLAIN;
    private int hand = 5;
    private int spite = 5;

    void become(Mason other) {
      style = other.style;
      hand = other.hand;
      spite = other.spite;
    }
  }

  /** All that an image keeps: stones, masons, quarrels and day, and how days go by. */
  private static final class Bridge {
    private final Stones stones = new Stones();
    private final Mason ofDay = new Mason();
    private final Mason ofNight = new Mason();
    private int quarrels;
    private int day;

    void become(Bridge other) {
      stones.become(other.stones);
      ofDay.become(other.ofDay);
      ofNight.become(other.ofNight);
      quarrels = other.quarrels;
      day = other.day;
    }

    Mason masonOf(int mason) {
      return mason == OF_NIGHT ? ofNight : ofDay;
    }

    boolean hasTimeFor(int n) {
      return n <= MOST_DAY - day;
    }

    void passDays(int n) {
      for (int i = 0; i < n; i++) {
        passDay(true);
      }
    }

    void passDay(boolean nightWorks) {
      day++;
      work(OF_DAY);
      if (nightWorks) {
        work(OF_NIGHT);
      }
    }

    private void work(int mason) {
      Mason worker = masonOf(mason);
      boolean isCross = (worker.spite + quarrels) % 10 >= 5;
      if (isCross && stones.isLastOfOther(mason, worker.style)) {
        stones.remakeLast(worker.style, worker.hand, mason);
        quarrels = Math.min(quarrels + 1, MOST_QUARRELS);
      } else if (stones.hasRoom()) {
        stones.add(worker.style, worker.hand, mason);
      }
    }
  }

  /** The letters of a bridge that is being told. */
  private static final class Letters {
    // A letter that no bridge has.
    private static final int NO_LETTER = 0;

    private final int[] letters = new int[MOST_LETTERS];
    private int number;

    int number() {
      return number;
    }

    boolean isFull() {
      return number >= MOST_LETTERS;
    }

    void add(int c) {
      if (number >= 0 && number < MOST_LETTERS) {
        letters[number] = c;
        number++;
      }
    }

    void forget() {
      number = 0;
    }

    /** The place of the first letter with which no bridge can go on, whatever its numbers mean. */
    int firstStray() {
      if (number == 0) {
        return 0;
      }
      for (int start = 0; start < number; start += 1 + lengthBehind(start)) {
        int stray = strayOf(start);
        if (stray != NONE) {
          return stray;
        }
      }
      return NONE;
    }

    /** The place of the first statement that is not as it must be; all ahead of it is done to the bridge. */
    int firstWrong(Bridge bridge) {
      for (int start = 0; start < number; start += 1 + lengthBehind(start)) {
        if (!perform(start, bridge)) {
          return start;
        }
      }
      return NONE;
    }

    int statements() {
      int statements = 0;
      for (int start = 0; start < number; start += 1 + lengthBehind(start)) {
        statements++;
      }
      return statements;
    }

    private int letterAt(int place) {
      return place >= 0 && place < number && place < MOST_LETTERS ? letters[place] : NO_LETTER;
    }

    private int digitAt(int place) {
      return letterAt(place) - '0';
    }

    private int kindAt(int place) {
      return KIND_LETTERS.indexOf((char) letterAt(place));
    }

    private int lengthBehind(int start) {
      return formBehind(letterAt(start)).length();
    }

    /** What comes behind a statement's first letter: k a letter of a kind, d a digit; nothing, if none begins so. */
    private static String formBehind(int first) {
      switch (first) {
        case 's':
          return "kdd;";
        case 'c':
          return "dkd;";
        case 'm':
          return "dkdd;";
        case 'u':
          return "d;";
        case 'd':
          return "dd;";
        default:
          return "";
      }
    }

    private int strayOf(int start) {
      String form = formBehind(letterAt(start));
      if (form.isEmpty()) {
        return start;
      }
      for (int i = 0; i < form.length(); i++) {
        int place = start + 1 + i;
        if (place >= number || !isOfForm(place, form.charAt(i))) {
          return place;
        }
      }
      return NONE;
    }

    private boolean isOfForm(int place, char form) {
      switch (form) {
        case 'k':
          return isKind(kindAt(place));
        case 'd':
          return between(digitAt(place), 0, 9);
        default:
          return letterAt(place) == form;
      }
    }

    /** Whether the statement is as it must be: then it is done, else nothing is. */
    private boolean perform(int start, Bridge bridge) {
      switch (letterAt(start)) {
        case 's':
          return layStone(start, bridge.stones);
        case 'c':
          return correctStone(start, bridge.stones);
        case 'm':
          return changeMason(start, bridge);
        case 'u':
          return takeStones(start, bridge.stones);
        case 'd':
          return passDays(start, bridge);
        default:
          return false;
      }
    }

    private boolean layStone(int start, Stones stones) {
      int mason = digitAt(start + 3);
      if (!isMason(mason) || !stones.hasRoom()) {
        return false;
      }
      stones.add(kindAt(start + 1), digitAt(start + 2), mason);
      return true;
    }

    private boolean correctStone(int start, Stones stones) {
      int stone = digitAt(start + 1);
      if (!stones.has(stone)) {
        return false;
      }
      stones.remake(stone, kindAt(start + 2), digitAt(start + 3));
      return true;
    }

    private boolean changeMason(int start, Bridge bridge) {
      int who = digitAt(start + 1);
      if (!isMason(who)) {
        return false;
      }
      Mason mason = bridge.masonOf(who);
      mason.style = kindAt(start + 2);
      mason.hand = digitAt(start + 3);
      mason.spite = digitAt(start + 4);
      return true;
    }

    private boolean takeStones(int start, Stones stones) {
      int n = digitAt(start + 1);
      if (!between(n, 1, stones.number())) {
        return false;
      }
      stones.takeAway(n);
      return true;
    }

    private boolean passDays(int start, Bridge bridge) {
      int n = 10 * digitAt(start + 1) + digitAt(start + 2);
      if (!between(n, 1, MOST_DAYS) || !bridge.hasTimeFor(n)) {
        return false;
      }
      bridge.passDays(n);
      return true;
    }
  }

  /** The numbers that are told of a bridge: what its joints hold, or its leans. */
  private static final class Row {
    private final int[] numbers = new int[MOST_TOLD];
    private int number;

    int number() {
      return number;
    }

    boolean isFull() {
      return number >= MOST_TOLD;
    }

    void add(int v) {
      if (number >= 0 && number < MOST_TOLD) {
        numbers[number] = v;
        number++;
      }
    }

    void forget() {
      number = 0;
    }

    boolean tellsWhatHolds(Stones stones) {
      for (int i = 0; i < number && i < MOST_TOLD; i++) {
        if (!stones.hasJoint(i) || stones.heldBy(i) != numbers[i]) {
          return false;
        }
      }
      return true;
    }

    int firstFalseLean(Stones stones) {
      int lean = 0;
      for (int i = 0; i < number && i < MOST_TOLD; i++) {
        lean += stones.leanOf(i);
        if (!stones.has(i) || lean + TOLD_UPRIGHT != numbers[i]) {
          return i;
        }
      }
      return NONE;
    }
  }

  /** What would be with other stones: each question changes a copy. */
  private static final class Remedies {
    private static final int AS_IT_IS = 0;
    private static final int MADE_PLAIN = 1;
    // More than all bits of stones together.
    private static final int MANY = 1 << MOST_STONES;
    private static final int NO_WAY = 1 << 30;
    private static final int WAYS = 2 * (2 * FARTHEST_LEAN + 1);

    private final Stones now;
    private final Stones changed = new Stones();
    private final int[] ways = new int[WAYS];
    private final int[] longerWays = new int[WAYS];

    Remedies(Stones now) {
      this.now = now;
    }

    int bestKindOfOneMore(int mason) {
      int best = NONE;
      int most = 0;
      for (int kind = 0; kind < KINDS; kind++) {
        changed.become(now);
        changed.add(kind, 5, mason);
        int spare = changed.leastSpare();
        boolean isUpright = Math.abs(changed.leanAtEnd()) <= FARTHEST_LEAN;
        if (isUpright && (best == NONE || spare > most)) {
          best = kind;
          most = spare;
        }
      }
      return best;
    }

    int firstMending() {
      if (now.stand()) {
        return NONE;
      }
      for (int stone = 0; stone < now.number(); stone++) {
        for (int kind = 0; kind < KINDS; kind++) {
          changed.become(now);
          changed.remake(stone, kind, now.figureOf(stone));
          if (changed.stand()) {
            return 10 * stone + kind;
          }
        }
      }
      return NONE;
    }

    /**
     * Found stone by stone: what comes behind a stone asks only for the lean there and whether the stone became plain.
     * Of all ways to one lean and choice the best one is kept: how many stones, by MANY, and their bits.
     */
    int fewestToPlain() {
      changed.become(now);
      for (int i = 0; i < ways.length; i++) {
        ways[i] = i == placeOfWay(0, AS_IT_IS) ? 0 : NO_WAY;
      }
      for (int stone = 0; stone < now.number(); stone++) {
        choose(stone);
      }
      int best = NO_WAY;
      for (int i = 0; i < ways.length; i++) {
        best = Math.min(best, ways[i]);
      }
      return best == NO_WAY ? NONE : best % MANY;
    }

    private void choose(int stone) {
      for (int i = 0; i < longerWays.length; i++) {
        longerWays[i] = NO_WAY;
      }
      for (int before = AS_IT_IS; before <= MADE_PLAIN; before++) {
        for (int choice = AS_IT_IS; choice <= MADE_PLAIN; choice++) {
          makeOf(stone - 1, before);
          makeOf(stone, choice);
          if (stone == 0 || changed.spareOf(stone - 1) >= 0) {
            goOn(stone, before, choice);
          }
        }
      }
      for (int i = 0; i < ways.length && i < longerWays.length; i++) {
        ways[i] = longerWays[i];
      }
    }

    private void makeOf(int stone, int choice) {
      if (choice == MADE_PLAIN) {
        changed.remake(stone, PLAIN, MOST_FIGURE);
      } else {
        changed.remake(stone, now.kindOf(stone), now.figureOf(stone));
      }
    }

    private void goOn(int stone, int before, int choice) {
      int more = choice == MADE_PLAIN ? MANY + (1 << stone) : 0;
      for (int lean = -FARTHEST_LEAN; lean <= FARTHEST_LEAN; lean++) {
        int from = placeOfWay(lean, before);
        int to = placeOfWay(lean + changed.leanOf(stone), choice);
        if (between(from, 0, WAYS - 1) && between(to, 0, WAYS - 1) && ways[from] != NO_WAY) {
          longerWays[to] = Math.min(longerWays[to], ways[from] + more);
        }
      }
    }

    /** Where the way to a lean and a choice is kept; none for a lean with which it does not stand. */
    private static int placeOfWay(int lean, int choice) {
      return between(lean, -FARTHEST_LEAN, FARTHEST_LEAN) && between(choice, AS_IT_IS, MADE_PLAIN)
          ? 2 * (lean + FARTHEST_LEAN) + choice : NONE;
    }

    int fewestToTake() {
      changed.become(now);
      for (int taken = 0; taken < now.number(); taken++) {
        if (changed.stand()) {
          return taken;
        }
        changed.takeAway(1);
      }
      return now.number();
    }

    int bestToTurn() {
      int best = NONE;
      int most = now.leastSpare();
      for (int stone = 0; stone < now.number(); stone++) {
        changed.become(now);
        changed.creditTo(stone, otherMason(now.layerOf(stone)));
        int spare = changed.leastSpare();
        if (spare > most) {
          best = stone;
          most = spare;
        }
      }
      return best;
    }

    int layersThatFit(int stone, Row told) {
      int bits = 0;
      for (int mason = OF_DAY; mason <= OF_NIGHT; mason++) {
        changed.become(now);
        changed.creditTo(stone, mason);
        bits |= oneIf(told.tellsWhatHolds(changed)) << mason;
      }
      return bits;
    }

    int kindsThatFit(int stone, Row told) {
      int bits = 0;
      for (int kind = 0; kind < KINDS; kind++) {
        changed.become(now);
        changed.remake(stone, kind, now.figureOf(stone));
        bits |= oneIf(told.tellsWhatHolds(changed)) << kind;
      }
      return bits;
    }

    int figuresThatFit(int stone, Row told) {
      int bits = 0;
      for (int figure = 0; figure < FIGURES; figure++) {
        changed.become(now);
        changed.remake(stone, now.kindOf(stone), figure);
        bits |= oneIf(told.tellsWhatHolds(changed)) << figure;
      }
      return bits;
    }
  }

  /** What would be as days go by: each question lets them go by over a copy. */
  private static final class Foresight {
    private static final int DAYS_OF_PEACE = 10;
    private static final int DAYS_OF_A_LOT = 9;

    private final Bridge now;
    private final Bridge seen = new Bridge();
    private final int[] quarrelsBehind = new int[MOST_DAYS + DAYS_OF_PEACE + 1];
    private final Draws draws = new Draws();

    Foresight(Bridge now) {
      this.now = now;
    }

    /** What is seen is good until the next question. */
    Bridge behind(int n) {
      seen.become(now);
      seen.passDays(n);
      return seen;
    }

    int dayWhenUp() {
      seen.become(now);
      for (int n = 0; n <= MOST_DAYS; n++) {
        if (!seen.stones.hasRoom() && seen.stones.stand()) {
          return n;
        }
        seen.passDay(true);
      }
      return NONE;
    }

    int dayOfFall() {
      seen.become(now);
      for (int n = 0; n <= MOST_DAYS; n++) {
        if (!seen.stones.stand()) {
          return n;
        }
        seen.passDay(true);
      }
      return NONE;
    }

    int whoHadBetterYield(int n) {
      int fewest = behind(n).quarrels;
      int best = NONE;
      for (int mason = OF_DAY; mason <= OF_NIGHT; mason++) {
        int quarrels = quarrelsIfYields(mason, n);
        if (quarrels < fewest) {
          fewest = quarrels;
          best = mason;
        }
      }
      return best;
    }

    private int quarrelsIfYields(int mason, int n) {
      seen.become(now);
      seen.masonOf(mason).spite = 0;
      seen.passDays(n);
      return seen.quarrels;
    }

    int bestStyle(int mason, int n) {
      int best = PLAIN;
      int most = spareWithStyle(mason, PLAIN, n);
      for (int style = PLAIN + 1; style < KINDS; style++) {
        int spare = spareWithStyle(mason, style, n);
        if (spare > most) {
          best = style;
          most = spare;
        }
      }
      return best;
    }

    int spareWithStyle(int mason, int style, int n) {
      seen.become(now);
      seen.masonOf(mason).style = style;
      seen.passDays(n);
      return seen.stones.leastSpare();
    }

    int dayOfPeace() {
      seen.become(now);
      for (int n = 0; n < quarrelsBehind.length; n++) {
        quarrelsBehind[n] = seen.quarrels;
        seen.passDay(true);
      }
      for (int n = 0; n + DAYS_OF_PEACE < quarrelsBehind.length; n++) {
        if (quarrelsBehind[n] == quarrelsBehind[n + DAYS_OF_PEACE]) {
          return n;
        }
      }
      return NONE;
    }

    boolean swappedLayMore(int n) {
      int unchanged = behind(n).stones.number();
      seen.become(now);
      seen.ofDay.style = now.ofNight.style;
      seen.ofNight.style = now.ofDay.style;
      seen.passDays(n);
      return seen.stones.number() > unchanged;
    }

    /** Each chooses spite (1) or none (0); a pair is settled, if neither gains by choosing otherwise alone. */
    int firstSettledPair(int n) {
      for (int first = 0; first <= 1; first++) {
        for (int second = 0; second <= 1; second++) {
          boolean firstStays = gain(OF_DAY, first, second, n) >= gain(OF_DAY, 1 - first, second, n);
          if (firstStays && gain(OF_NIGHT, first, second, n) >= gain(OF_NIGHT, first, 1 - second, n)) {
            return 10 * first + second;
          }
        }
      }
      return NONE;
    }

    private int gain(int mason, int first, int second, int n) {
      seen.become(now);
      seen.ofDay.spite = 9 * first;
      seen.ofNight.spite = 9 * second;
      seen.passDays(n);
      return seen.stones.shareOf(mason) - (seen.quarrels - now.quarrels);
    }

    /** Of the t to the n ways in which n days go, how many leave it standing. */
    long standingWays(int n, int t) {
      long ways = 0;
      for (int illDays = 0; illDays < 1 << n; illDays++) {
        seen.become(now);
        for (int i = 0; i < n; i++) {
          seen.passDay(!hasBit(illDays, i));
        }
        if (seen.stones.stand()) {
          ways += power(t - 1, n - Integer.bitCount(illDays));
        }
      }
      return ways;
    }

    int standingByLot(int n, int seed) {
      draws.beginWith(seed);
      int standing = 0;
      for (int i = 0; i < n; i++) {
        seeOneByLot();
        standing += oneIf(seen.stones.stand());
      }
      return standing;
    }

    int quarrelsByLot(int n, int seed) {
      draws.beginWith(seed);
      int more = 0;
      for (int i = 0; i < n; i++) {
        seeOneByLot();
        more += seen.quarrels - now.quarrels;
      }
      return more;
    }

    private void seeOneByLot() {
      seen.become(now);
      seen.stones.takeAway(seen.stones.number());
      drawMason(seen.ofDay);
      drawMason(seen.ofNight);
      seen.passDays(DAYS_OF_A_LOT);
    }

    private void drawMason(Mason mason) {
      mason.style = draws.below(KINDS);
      mason.hand = draws.below(FIGURES);
    }
  }

  /** Numbers drawn one behind the other from a seed. */
  private static final class Draws {
    private int z;

    void beginWith(int seed) {
      z = seed;
    }

    int below(int m) {
      z = z * 1664525 + 1013904223;
      return m > 0 ? (z & 0x7fffffff) / 256 % m : 0;
    }
  }
}
