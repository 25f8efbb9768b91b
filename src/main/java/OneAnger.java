import java.util.Arrays;

/** A village in which one may be angry with just one (or two) at a time; ../shared/DOC.md tells it. */
public final class OneAnger {
  public static final int BAD = -1, STATE = -2, FULL = -3, NONE = -4;

  // Where -1 could be a true answer the document has this in its place.
  private static final int FAR_BAD = -1000000;
  // What may be above or below 0 is answered above this, away from BAD and STATE.
  private static final int MIDDLE = 100000;

  private static final int PEOPLE = 6, SEA = 6, SEA_BIT = 64, NOBODY_BIT = 128;
  private static final int QUICK = 0, KEEPER = 1, GUARD = 2, FEIGN = 3, CALM = 4;
  private static final int SORT = 0, SPADE = 1, HARM = 2, HURT = 3, PRICE = 4, DAYS = 5, KEEP = 6, KIN = 7;
  private static final int TRAITS = 8;
  private static final int[] LEAST = {0, 0, 0, 0, 0, 1, 0};
  private static final int[] MOST = {4, 20, 20, 20, 20, 4, 20};

  private static final int LAW = 0, LAST = 1, SEE = 2, RULES = 3;
  private static final int[] RULE_FIRST = {1, 4, 10};
  private static final int[] RULE_LEAST = {1, 1, 0};
  private static final int[] RULE_MOST = {2, 9, 10};
  private static final int SEE_PARTS = 10;

  private static final int MOST_WEEKS = 99, MOST_HIRED_HURT = 99, HIRED_PRICE = 20, HIRED_DAYS = 4;
  private static final int TAPE = 320, BYTES_FED = 8;
  private static final int IMAGES = 2, SHEETS = 4, LANES = 3, CELLS = 40, MOST_READ = 12;
  private static final int NO_FAULT = 0, NULL = 1, INDEX = 2, CAST = 3, SIZE = 4;

  private final Village here = new Village();
  // What is only asked for ("as it would be") is tried on this one, so that nothing is changed.
  private final Village trial = new Village();
  private final Text text = new Text();
  private final Village[] images = new Village[IMAGES];
  private final boolean[] imaged = new boolean[IMAGES];
  private final Sheet[] sheets = new Sheet[SHEETS];
  private final Past past = new Past();
  private final Rings rings = new Rings();
  private final Chances chances = new Chances();
  private int textFault = NO_FAULT;
  private int readFault = NO_FAULT;

  public OneAnger() {
    for (int k = 0; k < IMAGES; k++) {
      images[k] = new Village();
    }
    for (int k = 0; k < SHEETS; k++) {
      sheets[k] = new Sheet();
    }
  }

  // ---- the text

  public int feed(long v) {
    return text.append(v);
  }

  public int end(int n) {
    return text.cut(n);
  }

  public int village() {
    text.tell();
    textFault = text.failure;
    if (textFault != NO_FAULT) {
      return -10 - text.place;
    }
    here.copyOf(text.told);
    for (int k = 0; k < IMAGES; k++) {
      imaged[k] = false;
    }
    return text.lines;
  }

  public int fault() {
    return textFault;
  }

  public int rule(int what) {
    return within(what, 0, RULES - 1) ? here.rules[what] : BAD;
  }

  public int one(int p, int what) {
    if (!here.has(p) || !within(what, 0, 10)) {
      return BAD;
    }
    switch (what) {
      case 8:
        return here.angers[p];
      case 9:
        return here.isFree(p) ? 1 : 0;
      case 10:
        return here.costOf(p);
      default:
        return here.trait(what, p);
    }
  }

  public int set(int p, int what, int v) {
    if (!here.has(p) || !within(what, SORT, KEEP) || !within(v, LEAST[what], MOST[what])) {
      return BAD;
    }
    int before = here.trait(what, p);
    here.putTrait(what, p, v);
    return before;
  }

  public int old(int r, int p) {
    if (!here.hasTwo(r, p)) {
      return BAD;
    }
    return here.isAngry(r, p) ? here.ageOf(r, p) : NONE;
  }

  public int got(int p) {
    return here.has(p) ? here.gains[p] : FAR_BAD;
  }

  public int point(int r, int p) {
    return here.begin(r, p);
  }

  public int rest(int r, int p) {
    if (!here.canMeet(r, p)) {
      return BAD;
    }
    if (!here.isAngry(r, p)) {
      return NONE;
    }
    here.stop(r, p);
    return here.angersOf(r);
  }

  // ---- wrongs

  public int would(int p, int q) {
    return here.hasTwo(p, q) ? here.minders(q, here.able(p)) : BAD;
  }

  public int worth(int p, int q, int what) {
    if (!here.hasTwo(p, q) || !within(what, 0, 1)) {
      return FAR_BAD;
    }
    return here.value(q, what == 0 ? here.ableAsSeen(p) : here.able(p));
  }

  public int whom(int p) {
    return here.has(p) ? here.choice(p, here.ableAsSeen(p)) : BAD;
  }

  public int wrong(int p, int q) {
    if (!here.hasTwo(p, q)) {
      return FAR_BAD;
    }
    int value = here.value(q, here.able(p));
    here.doWrong(p, q);
    return value;
  }

  // ---- weeks

  public int go(int n) {
    return within(n, 1, MOST_WEEKS) ? here.passWeeks(n) : BAD;
  }

  public int now(int what) {
    switch (what) {
      case 0:
        return here.week;
      case 1:
        return here.harmDone;
      case 2:
        return here.wrongs;
      case 3:
        return here.free();
      case 4:
        return here.openWrongs() == 0L ? 1 : 0;
      case 5:
        return here.allAngers();
      default:
        return BAD;
    }
  }

  public int run(int n, int what) {
    boolean ofOne = within(what, 10, 15) && here.has(what - 10);
    if (!within(n, 0, MOST_WEEKS) || !(within(what, 0, 3) || ofOne)) {
      return FAR_BAD;
    }
    trial.copyOf(here);
    int harm = trial.passWeeks(n);
    switch (what) {
      case 0:
        return harm;
      case 1:
        return trial.wrongs - here.wrongs;
      case 2:
        return trial.wrongers;
      case 3:
        return trial.free();
      default:
        return trial.gains[what - 10] - here.gains[what - 10];
    }
  }

  public int peace() {
    trial.copyOf(here);
    for (int week = 0; week < MOST_WEEKS; week++) {
      trial.passWeeks(1);
      if (trial.wrongers == 0) {
        return week;
      }
    }
    return NONE;
  }

  public int again(int what) {
    if (!within(what, 0, 1)) {
      return BAD;
    }
    trial.copyOf(here);
    past.note(0, trial);
    for (int n = 1; n <= MOST_WEEKS; n++) {
      trial.passWeeks(1);
      past.note(n, trial);
      if (past.hasLike(n, what == 0 ? 1 : n)) {
        return n;
      }
    }
    return NONE;
  }

  public int two(int n) {
    if (!within(n, 1, MOST_WEEKS)) {
      return BAD;
    }
    if (here.rules[LAW] == 2) {
      return STATE;
    }
    trial.copyOf(here);
    int harm = trial.passWeeks(n);
    trial.copyOf(here);
    trial.rules[LAW] = 2;
    return trial.passWeeks(n) - harm + MIDDLE;
  }

  public int were(int p, int sort, int n) {
    if (!here.has(p) || !within(sort, QUICK, CALM) || !within(n, 1, MOST_WEEKS)) {
      return BAD;
    }
    trial.copyOf(here);
    trial.passWeeks(n);
    int gain = trial.gains[p];
    trial.copyOf(here);
    trial.putTrait(SORT, p, sort);
    trial.passWeeks(n);
    return trial.gains[p] - gain + MIDDLE;
  }

  // ---- nobody gains

  public long open() {
    return here.openWrongs();
  }

  public int fewest(int what) {
    if (!within(what, 0, 1)) {
      return BAD;
    }
    int size = NONE;
    int best = NONE;
    trial.copyOf(here);
    for (int set = 0; set < 1 << here.people; set++) {
      int members = Integer.bitCount(set);
      if (size == NONE || members < size) {
        trial.makeReady(set);
        if (trial.openWrongs() == 0L) {
          size = members;
          best = set;
        }
      }
    }
    return what == 0 ? size : best;
  }

  public int always() {
    trial.copyOf(here);
    trial.makeReady(here.everybody());
    long open = trial.openWrongs();
    int wronged = 0;
    for (int p = 0; p < PEOPLE; p++) {
      wronged |= (int) (open >> (PEOPLE * p)) & 63;
    }
    return wronged;
  }

  public int where(int what) {
    if (!within(what, 0, 1)) {
      return BAD;
    }
    int now = Long.bitCount(here.openWrongs());
    int best = NONE;
    int most = 0;
    for (int r = 0; r < here.people; r++) {
      if (!here.isFree(r)) {
        trial.copyOf(here);
        trial.angers[r] = 0;
        int fewer = now - Long.bitCount(trial.openWrongs());
        if (fewer > most) {
          most = fewer;
          best = r;
        }
      }
    }
    return what == 0 || best == NONE ? best : most;
  }

  public int hire(int h, int what) {
    if (!within(h, 0, MOST_HIRED_HURT) || !within(what, 0, 1)) {
      return BAD;
    }
    int cost = hiredCost(h);
    int now = Long.bitCount(here.openWrongs());
    int best = NONE;
    int most = 0;
    for (int q = 0; q < here.people; q++) {
      int fewer = now - Long.bitCount(here.openWrongsGuarded(q, cost));
      if (fewer > most) {
        most = fewer;
        best = q;
      }
    }
    return what == 0 || best == NONE ? best : most;
  }

  public int price(int q) {
    if (!here.has(q)) {
      return BAD;
    }
    for (int h = 0; h <= MOST_HIRED_HURT; h++) {
      if (here.isSafeFor(q, hiredCost(h))) {
        return h;
      }
    }
    return NONE;
  }

  public int ring(int what) {
    if (!within(what, 0, 2)) {
      return BAD;
    }
    rings.find(here);
    switch (what) {
      case 0:
        return rings.shortest;
      case 1:
        return rings.longest;
      default:
        return rings.leastBits;
    }
  }

  // ---- by chances

  public long odds(int p, int q, int what) {
    if (!here.hasTwo(p, q) || !within(what, 0, 1)) {
      return BAD;
    }
    chances.weigh(here, p);
    return inLowestTerms(chances.weights[q], chances.total, what);
  }

  public long mean(int p, int what) {
    if (!here.has(p) || !within(what, 0, 1)) {
      return FAR_BAD;
    }
    chances.weigh(here, p);
    int able = here.able(p);
    long sum = 0L;
    for (int q = 0; q < here.people; q++) {
      sum += chances.weights[q] * here.value(q, able);
    }
    return inLowestTerms(sum, chances.total, what);
  }

  public int likeliest(int p) {
    if (!here.has(p)) {
      return BAD;
    }
    chances.weigh(here, p);
    int best = NONE;
    long most = 0L;
    for (int q = 0; q < here.people; q++) {
      if (chances.weights[q] > most) {
        most = chances.weights[q];
        best = q;
      }
    }
    return best;
  }

  // ---- images, sheets

  public int keep(int k) {
    if (!within(k, 0, IMAGES - 1)) {
      return BAD;
    }
    int before = imaged[k] ? 1 : 0;
    images[k].copyOf(here);
    imaged[k] = true;
    return before;
  }

  public int back(int k) {
    if (!within(k, 0, IMAGES - 1)) {
      return BAD;
    }
    if (!imaged[k]) {
      return STATE;
    }
    here.copyOf(images[k]);
    return here.week;
  }

  public int sheet(int k, int lane, int n) {
    if (!within(k, 0, SHEETS - 1) || !within(lane, 0, LANES - 1) || n > CELLS) {
      return BAD;
    }
    if (n < 0) {
      return -10 - SIZE;
    }
    sheets[k].renew(lane, n);
    return 1;
  }

  public int lay(int k, int i, int v) {
    if (!within(k, 0, SHEETS - 1)) {
      return BAD;
    }
    int failure = sheets[k].put(i, v);
    return failure == NO_FAULT ? 1 : -10 - failure;
  }

  public int read(int k, int lane, int f, int n) {
    if (!within(k, 0, SHEETS - 1) || !within(lane, 0, LANES - 1) || !within(n, 0, MOST_READ)) {
      return BAD;
    }
    Sheet from = sheets[k];
    int failure = n == 0 ? NO_FAULT : from.faultAs(lane);
    int came = 0;
    trial.copyOf(here);
    for (int i = 0; i < n && failure == NO_FAULT; i++) {
      long first = f + 2L * i;
      if (!from.hasCell(first) || !from.hasCell(first + 1L)) {
        failure = INDEX;
      } else if (trial.begin(from.cells[(int) first], from.cells[(int) first + 1]) < 0) {
        return -20 - i;
      } else {
        came++;
      }
    }
    here.copyOf(trial);
    readFault = failure;
    return came;
  }

  public int torn() {
    return readFault;
  }

  public int count(int what) {
    switch (what) {
      case 0:
        return here.people;
      case 1:
        return Integer.bitCount(here.allOf(GUARD));
      case 2:
        return (imaged[0] ? 1 : 0) + (imaged[1] ? 1 : 0);
      case 3:
        return text.size;
      case 4:
        return sheets[0].size;
      default:
        return BAD;
    }
  }

  private static boolean within(int v, int least, int most) {
    return v >= least && v <= most;
  }

  private static int costFor(int hurt, int price, int days, int last) {
    return Math.min(hurt * last, hurt * days + price);
  }

  private int hiredCost(int h) {
    return costFor(h, HIRED_PRICE, HIRED_DAYS, here.rules[LAST]);
  }

  private static long inLowestTerms(long numerator, long denominator, int what) {
    long divisor = commonDivisor(Math.abs(numerator), denominator);
    return divisor == 0L ? 0L : (what == 0 ? numerator : denominator) / divisor;
  }

  private static long commonDivisor(long a, long b) {
    long larger = a;
    long smaller = b;
    // Euclid's steps for any two longs are fewer than 100.
    for (int i = 0; i < 100 && smaller != 0L; i++) {
      long over = larger % smaller;
      larger = smaller;
      smaller = over;
    }
    return larger;
  }

  /** PEOPLE, their ANGERS, RULES, WEEK and sums. */
  private static final class Village {
    final int[] rules = new int[RULES];
    final int[] traits = new int[TRAITS * PEOPLE];
    // Bits: with whom; 64 is THE SEA.
    final int[] angers = new int[PEOPLE];
    // An age counts only while the bit of its ANGER is set.
    final int[] ages = new int[PEOPLE * PEOPLE];
    final int[] gains = new int[PEOPLE];
    int people;
    int week;
    int harmDone;
    int wrongs;
    // Who wronged somebody in the latest WEEK of the latest passWeeks().
    int wrongers;

    Village() {
      clear();
    }

    void clear() {
      System.arraycopy(RULE_FIRST, 0, rules, 0, RULES);
      Arrays.fill(traits, 0);
      for (int p = 0; p < PEOPLE; p++) {
        putTrait(KIN, p, NONE);
      }
      Arrays.fill(angers, 0);
      Arrays.fill(ages, 0);
      Arrays.fill(gains, 0);
      people = 0;
      week = 0;
      harmDone = 0;
      wrongs = 0;
    }

    void copyOf(Village other) {
      System.arraycopy(other.rules, 0, rules, 0, RULES);
      System.arraycopy(other.traits, 0, traits, 0, TRAITS * PEOPLE);
      System.arraycopy(other.angers, 0, angers, 0, PEOPLE);
      System.arraycopy(other.ages, 0, ages, 0, PEOPLE * PEOPLE);
      System.arraycopy(other.gains, 0, gains, 0, PEOPLE);
      people = other.people;
      week = other.week;
      harmDone = other.harmDone;
      wrongs = other.wrongs;
    }

    boolean has(int p) {
      return within(p, 0, people - 1);
    }

    boolean hasTwo(int p, int q) {
      return has(p) && has(q) && p != q;
    }

    int everybody() {
      return (1 << people) - 1;
    }

    int trait(int what, int p) {
      return traits[what * PEOPLE + p];
    }

    void putTrait(int what, int p, int v) {
      traits[what * PEOPLE + p] = v;
    }

    int allOf(int sort) {
      int bits = 0;
      for (int p = 0; p < people; p++) {
        if (trait(SORT, p) == sort) {
          bits |= 1 << p;
        }
      }
      return bits;
    }

    // -- ANGERS

    boolean canMeet(int r, int p) {
      return has(r) && (p == SEA || hasTwo(r, p));
    }

    boolean isAngry(int r, int p) {
      return (angers[r] >> p & 1) != 0;
    }

    int ageOf(int r, int p) {
      return ages[r * PEOPLE + p];
    }

    int angersOf(int r) {
      return Integer.bitCount(angers[r]);
    }

    int allAngers() {
      int sum = 0;
      for (int r = 0; r < people; r++) {
        sum += angersOf(r);
      }
      return sum;
    }

    int begin(int r, int p) {
      if (!canMeet(r, p)) {
        return BAD;
      }
      if (isAngry(r, p)) {
        return STATE;
      }
      if (!isFree(r)) {
        return FULL;
      }
      start(r, p);
      return angersOf(r);
    }

    void start(int r, int p) {
      angers[r] |= 1 << p;
      if (p != SEA) {
        ages[r * PEOPLE + p] = 0;
      }
    }

    void stop(int r, int p) {
      angers[r] &= ~(1 << p);
    }

    int free() {
      int bits = 0;
      for (int r = 0; r < people; r++) {
        if (Integer.bitCount(angers[r]) < rules[LAW]) {
          bits |= 1 << r;
        }
      }
      return bits;
    }

    boolean isFree(int r) {
      return (free() >> r & 1) != 0;
    }

    int angryWith(int p) {
      int bits = 0;
      for (int r = 0; r < people; r++) {
        if (isAngry(r, p)) {
          bits |= 1 << r;
        }
      }
      return bits;
    }

    // -- wrongs

    int able(int p) {
      return free() & ~angryWith(p) & ~(1 << p);
    }

    int ableAsSeen(int p) {
      return able(p) & ~allOf(FEIGN);
    }

    boolean minds(int r, int q) {
      switch (trait(SORT, r)) {
        case QUICK:
        case FEIGN:
          return r == q;
        case KEEPER:
          return r == q && trait(HARM, r) >= trait(KEEP, r);
        case GUARD:
          return r == q || trait(KIN, r) == q;
        default:
          return false;
      }
    }

    int minders(int q, int able) {
      int bits = 0;
      for (int r = 0; r < people; r++) {
        if ((able >> r & 1) != 0 && minds(r, q)) {
          bits |= 1 << r;
        }
      }
      return bits;
    }

    int costOf(int r) {
      return costFor(trait(HURT, r), trait(PRICE, r), trait(DAYS, r), rules[LAST]);
    }

    int value(int q, int able) {
      int value = trait(SPADE, q);
      for (int r = 0; r < people; r++) {
        if ((able >> r & 1) != 0 && minds(r, q)) {
          value -= costOf(r);
        }
      }
      return value;
    }

    int choice(int p, int able) {
      int best = NONE;
      int most = 0;
      for (int q = 0; q < people; q++) {
        if (q != p) {
          int value = value(q, able);
          if (value > most) {
            most = value;
            best = q;
          }
        }
      }
      return best;
    }

    void doWrong(int p, int q) {
      int angry = minders(q, able(p));
      gains[p] += trait(SPADE, q);
      gains[q] -= trait(HARM, q);
      for (int r = 0; r < people; r++) {
        if ((angry >> r & 1) != 0) {
          start(r, p);
        }
      }
    }

    // -- WEEKS

    int passWeeks(int n) {
      int before = harmDone;
      wrongers = 0;
      for (int i = 0; i < n; i++) {
        wrongAll();
        hurtAll();
        endSome();
        week++;
      }
      return harmDone - before;
    }

    void wrongAll() {
      wrongers = 0;
      for (int p = 0; p < people; p++) {
        int q = choice(p, ableAsSeen(p));
        if (q != NONE) {
          doWrong(p, q);
          wrongers |= 1 << p;
          wrongs++;
          harmDone += trait(HARM, q);
        }
      }
    }

    void hurtAll() {
      for (int r = 0; r < people; r++) {
        for (int p = 0; p < people; p++) {
          if (isAngry(r, p)) {
            gains[p] -= trait(HURT, r);
            ages[r * PEOPLE + p]++;
          }
        }
      }
    }

    void endSome() {
      for (int r = 0; r < people; r++) {
        for (int p = 0; p < people; p++) {
          if (isAngry(r, p)) {
            endOne(r, p);
          }
        }
      }
    }

    void endOne(int r, int p) {
      int age = ageOf(r, p);
      int lacking = rules[LAST] - age;
      int price = trait(PRICE, r);
      if (lacking <= 0) {
        stop(r, p);
      } else if (age >= trait(DAYS, r) && price < trait(HURT, r) * lacking) {
        gains[p] -= price;
        gains[r] += price;
        stop(r, p);
      }
    }

    // -- nobody gains

    long openWrongs() {
      return openWrongsGuarded(NONE, 0);
    }

    /** Open wrongs while a HIRED ONE of this cost is there for guarded (NONE: for nobody). */
    long openWrongsGuarded(int guarded, int cost) {
      long bits = 0L;
      for (int p = 0; p < people; p++) {
        int able = ableAsSeen(p);
        for (int q = 0; q < people; q++) {
          if (q != p && value(q, able) > (q == guarded ? cost : 0)) {
            bits |= 1L << (PEOPLE * p + q);
          }
        }
      }
      return bits;
    }

    boolean isSafeFor(int q, int cost) {
      long open = openWrongsGuarded(q, cost);
      for (int p = 0; p < people; p++) {
        if ((open >> (PEOPLE * p + q) & 1L) != 0L) {
          return false;
        }
      }
      return true;
    }

    void makeReady(int set) {
      for (int r = 0; r < people; r++) {
        angers[r] = (set >> r & 1) != 0 ? 0 : SEA_BIT | NOBODY_BIT;
      }
    }
  }

  /** THE TAPE, and the village that it tells. */
  private static final class Text {
    private static final int END = 0, NAME = 1, NUMBER = 2, SIGN = 3, NO_TOKEN = 4;
    private static final int MOST_FIGURES = 3;
    private static final int ODD = 1, MISPLACED = 2, OUT_OF_BOUNDS = 3, TWICE = 4, TOO_MANY = 5, UNFIT = 6, UNLAWFUL = 7;
    // The lines that tell a RULE have its number.
    private static final int LINE_ONE = RULES;
    private static final int WITH_KEEP = 0, WITH_KIN = 1, WITH_ANGRY = 2, WITH_SEA = 3;

    final int[] bytes = new int[TAPE];
    final Village told = new Village();
    int size;
    int failure;
    int place;
    int lines;
    private int at;
    private int kind;
    private int start;
    private int number;
    private int ruled;

    int append(long v) {
      if (size + BYTES_FED > TAPE) {
        return FULL;
      }
      for (int i = 0; i < BYTES_FED; i++) {
        bytes[size + i] = (int) (v >>> (56 - 8 * i)) & 255;
      }
      size += BYTES_FED;
      return size;
    }

    int cut(int n) {
      if (!within(n, 0, size)) {
        return BAD;
      }
      int before = size;
      size = n;
      return before;
    }

    void tell() {
      told.clear();
      failure = NO_FAULT;
      lines = 0;
      at = 0;
      ruled = 0;
      boolean fine = advance();
      // A line has one byte at least.
      for (int i = 0; i < TAPE && fine && kind != END; i++) {
        int what = lineNamed();
        if (what == NONE) {
          fine = misplaced();
        } else {
          fine = what == LINE_ONE ? takeOne() : takeRule(what);
        }
      }
      if (fine) {
        checkAll();
      }
      size = 0;
    }

    private boolean fail(int fault, int where) {
      failure = fault;
      place = where;
      return false;
    }

    // -- TOKENS

    private boolean advance() {
      while (at < size && bytes[at] == ' ') {
        at++;
      }
      start = at;
      if (at >= size) {
        kind = END;
        return true;
      }
      kind = kindOf(bytes[at]);
      if (kind == NO_TOKEN) {
        return fail(ODD, start);
      }
      at++;
      while (kind != SIGN && at < size && kindOf(bytes[at]) == kind) {
        at++;
      }
      if (kind == NUMBER && at - start > MOST_FIGURES) {
        return fail(ODD, start);
      }
      return true;
    }

    private static int kindOf(int sign) {
      if (sign >= 'a' && sign <= 'z') {
        return NAME;
      }
      if (sign >= '0' && sign <= '9') {
        return NUMBER;
      }
      return sign == ';' ? SIGN : NO_TOKEN;
    }

    private int valueOfToken() {
      int value = 0;
      for (int i = start; i < at; i++) {
        value = value * 10 + bytes[i] - '0';
      }
      return value;
    }

    private boolean isName(String name) {
      if (kind != NAME || name.length() != at - start) {
        return false;
      }
      for (int i = start; i < at; i++) {
        if (bytes[i] != name.charAt(i - start)) {
          return false;
        }
      }
      return true;
    }

    private boolean misplaced() {
      return fail(MISPLACED, start);
    }

    private boolean takeNumber(int least, int most) {
      if (!advance()) {
        return false;
      }
      if (kind != NUMBER) {
        return misplaced();
      }
      number = valueOfToken();
      return within(number, least, most) || fail(OUT_OF_BOUNDS, start);
    }

    // -- lines

    private int lineNamed() {
      if (isName("one")) {
        return LINE_ONE;
      }
      if (isName("law")) {
        return LAW;
      }
      if (isName("last")) {
        return LAST;
      }
      return isName("see") ? SEE : NONE;
    }

    private boolean takeRule(int what) {
      if ((ruled >> what & 1) != 0) {
        return fail(TWICE, start);
      }
      ruled |= 1 << what;
      if (!takeNumber(RULE_LEAST[what], RULE_MOST[what])) {
        return false;
      }
      told.rules[what] = number;
      return advance() && takeClosing();
    }

    private boolean takeOne() {
      int p = told.people;
      if (p >= PEOPLE) {
        return fail(TOO_MANY, start);
      }
      if (!advance()) {
        return false;
      }
      int sort = sortNamed();
      if (sort == NONE) {
        return misplaced();
      }
      told.putTrait(SORT, p, sort);
      for (int what = SPADE; what <= DAYS; what++) {
        if (!takeNumber(LEAST[what], MOST[what])) {
          return false;
        }
        told.putTrait(what, p, number);
      }
      told.people++;
      return advance() && takeWiths(p) && takeClosing();
    }

    private boolean takeClosing() {
      if (kind != SIGN) {
        return misplaced();
      }
      lines++;
      return advance();
    }

    private int sortNamed() {
      if (isName("quick")) {
        return QUICK;
      }
      if (isName("keeper")) {
        return KEEPER;
      }
      if (isName("guard")) {
        return GUARD;
      }
      if (isName("feign")) {
        return FEIGN;
      }
      return isName("calm") ? CALM : NONE;
    }

    private int withNamed() {
      if (isName("keep")) {
        return WITH_KEEP;
      }
      if (isName("kin")) {
        return WITH_KIN;
      }
      if (isName("angry")) {
        return WITH_ANGRY;
      }
      return isName("sea") ? WITH_SEA : NONE;
    }

    private boolean takeWiths(int p) {
      int taken = 0;
      for (int i = 0; i < TAPE && kind == NAME; i++) {
        int with = withNamed();
        if (with == NONE) {
          return misplaced();
        }
        if ((taken >> with & 1) != 0) {
          return fail(TWICE, start);
        }
        taken |= 1 << with;
        if (with != WITH_SEA && !takeNumber(0, with == WITH_KEEP ? MOST[KEEP] : PEOPLE - 1)) {
          return false;
        }
        noteWith(p, with);
        if (!advance()) {
          return false;
        }
      }
      return true;
    }

    private void noteWith(int p, int with) {
      switch (with) {
        case WITH_KEEP:
          told.putTrait(KEEP, p, number);
          break;
        case WITH_KIN:
          told.putTrait(KIN, p, number);
          break;
        case WITH_ANGRY:
          told.start(p, number);
          break;
        default:
          told.start(p, SEA);
          break;
      }
    }

    // -- behind all

    private void checkAll() {
      boolean fitting = true;
      boolean lawful = true;
      for (int p = 0; p < told.people; p++) {
        int others = told.everybody() & ~(1 << p);
        int kin = told.trait(KIN, p);
        int named = told.angers[p] & ~SEA_BIT | (kin == NONE ? 0 : 1 << kin);
        fitting &= (named & ~others) == 0;
        lawful &= told.angersOf(p) <= told.rules[LAW];
      }
      if (!fitting) {
        fail(UNFIT, size);
      } else if (!lawful) {
        fail(UNLAWFUL, size);
      }
    }
  }

  /** All ANGERS, as old as they were, behind 0 to 99 WEEKS. */
  private static final class Past {
    private final int[] rows = new int[(MOST_WEEKS + 1) * PEOPLE];

    void note(int n, Village v) {
      for (int r = 0; r < PEOPLE; r++) {
        rows[n * PEOPLE + r] = rowOf(v, r);
      }
    }

    // ANGERS with THE SEA are left out: no WEEK begins or ends one.
    private static int rowOf(Village v, int r) {
      int row = 0;
      for (int p = 0; p < PEOPLE; p++) {
        row = row * 16 + (v.isAngry(r, p) ? v.ageOf(r, p) + 1 : 0);
      }
      return row;
    }

    /** Whether all was so behind some WEEKS fewer than bound. */
    boolean hasLike(int n, int bound) {
      for (int m = 0; m < bound; m++) {
        if (same(m, n)) {
          return true;
        }
      }
      return false;
    }

    private boolean same(int m, int n) {
      for (int r = 0; r < PEOPLE; r++) {
        if (rows[m * PEOPLE + r] != rows[n * PEOPLE + r]) {
          return false;
        }
      }
      return true;
    }
  }

  /** RINGS, found set by set: which of a set can end a way through all of it from its least one. */
  private static final class Rings {
    private final int[] ends = new int[1 << PEOPLE];
    int shortest;
    int longest;
    int leastBits;

    void find(Village v) {
      shortest = NONE;
      longest = NONE;
      leastBits = NONE;
      for (int set = 1; set < 1 << v.people; set++) {
        int first = Integer.numberOfTrailingZeros(set);
        int size = Integer.bitCount(set);
        ends[set] = size == 1 ? set : endsOf(v, set, first);
        if (size > 1 && (ends[set] & v.angryWith(first)) != 0) {
          noteRing(set, size);
        }
      }
    }

    private int endsOf(Village v, int set, int first) {
      int bits = 0;
      for (int last = first + 1; last < v.people; last++) {
        if ((set >> last & 1) != 0 && (ends[set & ~(1 << last)] & v.angryWith(last)) != 0) {
          bits |= 1 << last;
        }
      }
      return bits;
    }

    // Sets come with rising bits, so the first of a size has the least.
    private void noteRing(int set, int size) {
      if (shortest == NONE || size < shortest) {
        shortest = size;
        leastBits = set;
      }
      longest = Math.max(longest, size);
    }
  }

  /** How likely p wrongs whom: weights of a total. */
  private static final class Chances {
    final long[] weights = new long[PEOPLE];
    long total;

    void weigh(Village v, int p) {
      Arrays.fill(weights, 0L);
      total = 1L;
      for (int i = 1; i < v.people; i++) {
        total *= SEE_PARTS;
      }
      int others = v.everybody() & ~(1 << p);
      int rightly = v.free() & ~v.allOf(FEIGN) & others;
      int angry = v.angryWith(p);
      for (int turned = 0; turned < 1 << v.people; turned++) {
        if ((turned & ~others) == 0) {
          long weight = weightOf(v.rules[SEE], Integer.bitCount(turned), v.people - 1);
          int q = weight == 0L ? NONE : v.choice(p, (rightly ^ turned) & ~angry);
          if (q != NONE) {
            weights[q] += weight;
          }
        }
      }
    }

    private static long weightOf(int see, int turned, int others) {
      long weight = 1L;
      for (int i = 0; i < others; i++) {
        weight *= i < turned ? SEE_PARTS - see : see;
      }
      return weight;
    }
  }

  /** A row of CELLS of a lane, or nothing. */
  private static final class Sheet {
    final int[] cells = new int[CELLS];
    int size = NONE;
    private int lane;

    void renew(int newLane, int n) {
      Arrays.fill(cells, 0);
      lane = newLane;
      size = n;
    }

    boolean hasCell(long i) {
      return i >= 0L && i < size;
    }

    int put(int i, int v) {
      if (size == NONE) {
        return NULL;
      }
      if (!hasCell(i)) {
        return INDEX;
      }
      cells[i] = lowestBits(v);
      return NO_FAULT;
    }

    private int lowestBits(int v) {
      switch (lane) {
        case 0:
          return (byte) v;
        case 1:
          return (short) v;
        default:
          return v;
      }
    }

    int faultAs(int wanted) {
      if (size == NONE) {
        return NULL;
      }
      return wanted == lane ? NO_FAULT : CAST;
    }
  }
}
