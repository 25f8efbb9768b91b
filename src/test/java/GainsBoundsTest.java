/** Bounds of promises 24 to 30: whether nobody gains, who must be free, HIRED ONES, RINGS. */
public final class GainsBoundsTest {
  private static final Bounds B = new Bounds("GainsBoundsTest");
  private static final int BAD = OneAnger.BAD, NONE = OneAnger.NONE;
  private static final String CALM = "one calm 0 0 0 0 1;";
  // COST 8: safe with SPADE 8, if he is FREE.
  private static final String QUICK = "one quick 8 0 2 20 4;";
  // Two octal figures for each of six: all but himself.
  private static final long ALL_OPEN = 037_57_67_73_75_76L;

  private static long bit(int p, int q) {
    return 1L << (6 * p + q);
  }

  // ---- 24

  private static void promise24NoneToAll() {
    B.of(24);
    long all = 0L;
    for (int p = 0; p < 6; p++) {
      for (int q = 0; q < 6; q++) {
        all |= p == q ? 0L : bit(p, q);
      }
    }
    B.due("all of six", ALL_OPEN, all);
    B.leaves("open()", 0L, Place.EMPTY, OneAnger::open);
    B.leaves("open()", 0L, Place.ALONE, OneAnger::open);
    B.leaves("LAW is full: open()", all, Place.FULL, OneAnger::open);
    B.leaves("LAW of two is full: open()", all, Place.TWOS, OneAnger::open);
    for (int n = 2; n <= 6; n++) {
      OneAnger x = Check.told(QUICK.repeat(n));
      B.due("WORTH 0 for all", 0L, x.open());
      x.set(n - 1, 1, 9);
      long last = 0L;
      for (int p = 0; p < n - 1; p++) {
        last |= bit(p, n - 1);
      }
      B.due("WORTH 1 of the last of " + n, last, x.open());
      x.set(n - 1, 1, 7);
      x.set(0, 1, 9);
      long first = 0L;
      for (int p = 1; p < n; p++) {
        first |= bit(p, 0);
      }
      B.due("WORTH 1 of the first, -1 of the last of " + n, first, x.open());
    }
  }

  private static void promise24OneAlone() {
    B.of(24);
    for (int p = 0; p < 6; p++) {
      for (int q = 0; q < 6; q++) {
        if (p != q) {
          // All others are guards of q, so that one who is not FREE for p alone is left.
          OneAnger x = Check.told("law 2;" + "one guard 0 0 20 20 4;".repeat(6));
          x.set(q, 1, 20);
          x.set(q, 0, 0);
          x.set(q, 3, 5);
          B.due("none", 0L, x.open());
          x.point(q, p);
          B.due("of " + p + " to " + q + " alone", bit(p, q), x.open());
        }
      }
    }
  }

  // ---- 25

  private static void promise25Numbers() {
    B.of(25);
    B.outside("fewest(%d)", 0, 1, BAD, OneAnger::fewest);
    int[][] want = {{0, 0}, {0, 0}, {NONE, NONE}, {NONE, NONE}, {NONE, NONE}};
    for (int i = 0; i < 5; i++) {
      for (int what = 0; what <= 1; what++) {
        int w = what;
        B.leaves("fewest(" + what + ")", want[i][what], Place.ALL[i], x -> x.fewest(w));
      }
    }
    for (int n = 1; n <= 6; n++) {
      OneAnger x = Check.told(QUICK.repeat(n));
      B.due("one alone need not be, else all of " + n, n == 1 ? 0 : n, x.fewest(0));
      B.due("these", n == 1 ? 0 : (1 << n) - 1, x.fewest(1));
      x = Check.told(CALM.repeat(n));
      B.due("none of " + n, 0, x.fewest(0));
      B.due("none of these", 0, x.fewest(1));
    }
    OneAnger x = Check.told(CALM.repeat(5) + QUICK);
    B.due("the last one", 1, x.fewest(0));
    B.due("32", 32, x.fewest(1));
    x.set(5, 1, 9);
    B.due("by none", NONE, x.fewest(0));
    B.due("by none, bits", NONE, x.fewest(1));
  }

  private static void promise25LeastBits() {
    B.of(25);
    // 5 is kept by any two of four guards, but by three (of whom one may be the wronger) from the guards.
    OneAnger x = Check.told("one guard 0 0 2 20 4 kin 5;".repeat(5) + "one calm 16 0 0 0 1;");
    B.due("three", 3, x.fewest(0));
    B.due("of several the least", 7, x.fewest(1));
    x.set(0, 3, 0);
    B.due("the least of those who count", 14, x.fewest(1));
    x.set(5, 1, 8);
    B.due("two", 6, x.fewest(1));
    x.set(5, 1, 0);
    B.due("none", 0, x.fewest(1));
    for (int law = 1; law <= 2; law++) {
      x = Check.told("law " + law + ";" + CALM + QUICK + QUICK);
      B.due("those who are not READY are not FREE, LAW " + law, 6, x.fewest(1));
      B.due("nothing is changed", 0, x.now(5));
    }
  }

  // ---- 26

  private static void promise26NoneToAll() {
    B.of(26);
    int[] want = {0, 0, 7, 30, 40};
    for (int i = 0; i < 5; i++) {
      B.leaves("always()", want[i], Place.ALL[i], OneAnger::always);
    }
    for (int n = 1; n <= 6; n++) {
      B.due("WORTH 0 of " + n, 0, Check.told(QUICK.repeat(n)).always());
      B.due("WORTH 1 of " + n, n == 1 ? 0 : (1 << n) - 1, Check.told("one quick 9 0 2 20 4;".repeat(n)).always());
    }
    OneAnger x = Check.told("one quick 8 0 2 20 4 sea;".repeat(6));
    B.due("none, though nobody is FREE now", 0, x.always());
    B.due("nothing is changed", 6, x.now(5));
    x.set(5, 1, 9);
    B.due("the last one", 32, x.always());
    x.set(0, 0, 3);
    B.due("a FEIGN, as SEEN", 33, x.always());
  }

  // ---- 27

  private static void promise27Numbers() {
    B.of(27);
    B.outside("where(%d)", 0, 1, BAD, OneAnger::where);
    for (int what = 0; what <= 1; what++) {
      int w = what;
      B.leaves("where(" + what + ")", NONE, Place.EMPTY, x -> x.where(w));
      B.leaves("where(" + what + ")", NONE, Place.ALONE, x -> x.where(w));
    }
    for (int n = 2; n <= 6; n++) {
      OneAnger x = Check.told((QUICK.substring(0, QUICK.length() - 1) + " sea;").repeat(n));
      B.due("of several the least of " + n, 0, x.where(0));
      B.due("fewer", n - 1, x.where(1));
      for (int r = 0; r < n - 1; r++) {
        x.rest(r, 6);
      }
      B.due("the last one of " + n, n - 1, x.where(0));
      B.due("fewer by him", n - 1, x.where(1));
      x.rest(n - 1, 6);
      B.due("all are FREE", NONE, x.where(0));
      B.due("all are FREE, how many", NONE, x.where(1));
    }
  }

  private static void promise27FewerThanNow() {
    B.of(27);
    OneAnger x = Check.told("one quick 9 0 2 20 4 sea;" + CALM);
    B.due("WORTH 1 is left: none fewer", NONE, x.where(0));
    B.due("none fewer, how many", NONE, x.where(1));
    x.set(0, 1, 8);
    B.due("WORTH 0 is left", 0, x.where(0));
    B.due("one fewer", 1, x.where(1));
    x = Check.told("law 2;one quick 8 0 2 20 4 sea;" + CALM);
    B.due("one ANGER of two: he is FREE", NONE, x.where(0));
    x.point(0, 1);
    B.due("two of two", 0, x.where(0));
    B.due("had he none", 1, x.where(1));
    B.due("he has both still", 66, x.one(0, 8));
    // A guard of 5 does the good of both: five wrongs to himself, four to 5.
    x = Check.told(CALM.repeat(4) + "one guard 8 0 2 20 4 kin 5 sea;one calm 8 0 0 0 1;");
    B.due("the greatest good", 4, x.where(0));
    B.due("nine fewer", 9, x.where(1));
  }

  // ---- 28

  private static void promise28Numbers() {
    B.of(28);
    for (int what = 0; what <= 1; what++) {
      int w = what;
      B.outside("hire(%d, " + what + ")", 0, 99, BAD, (x, h) -> x.hire(h, w));
    }
    for (int h : new int[] {0, 1, 99}) {
      B.outside("hire(" + h + ", %d)", 0, 1, BAD, (x, what) -> x.hire(h, what));
      for (int what = 0; what <= 1; what++) {
        int w = what;
        B.leaves("hire(" + h + ", " + what + ")", NONE, Place.EMPTY, x -> x.hire(h, w));
        B.leaves("hire(" + h + ", " + what + ")", NONE, Place.ALONE, x -> x.hire(h, w));
      }
    }
    B.leaves("hire(0, 0)", NONE, Place.FULL, x -> x.hire(0, 0));
    B.leaves("hire(99, 0)", 0, Place.FULL, x -> x.hire(99, 0));
    B.leaves("hire(99, 1)", 5, Place.FULL, x -> x.hire(99, 1));
  }

  private static void promise28EnoughHurt() {
    B.of(28);
    for (int last = 1; last <= 9; last++) {
      for (int h = 0; h <= 20; h++) {
        int cost = Math.min(h * last, 4 * h + 20);
        for (int spade = Math.max(cost, 1); spade <= Math.min(cost + 1, 20); spade++) {
          OneAnger x = Check.told("last " + last + ";" + CALM.repeat(5) + "one calm " + spade + " 0 0 0 1;");
          boolean enough = spade <= cost;
          B.due("SPADE " + spade + " for a COST of " + cost, enough ? 5 : NONE, x.hire(h, 0));
          B.due("how many fewer", enough ? 5 : NONE, x.hire(h, 1));
        }
      }
    }
    OneAnger x = Check.told("last 1;one calm 20 0 0 0 1;".concat(CALM));
    B.due("19 is not enough", NONE, x.hire(19, 0));
    B.due("20 is", 0, x.hire(20, 0));
    B.due("99 is", 0, x.hire(99, 0));
    x = Check.told("one calm 8 0 0 0 1;".repeat(6));
    B.due("of several the least", 0, x.hire(2, 0));
    B.due("five fewer", 5, x.hire(2, 1));
    x.set(0, 1, 9);
    B.due("the least for whom it is enough", 1, x.hire(2, 0));
  }

  // ---- 29

  private static void promise29Numbers() {
    B.of(29);
    B.noSuchOne("price(%d)", BAD, OneAnger::price);
    B.everywhere("price(6)", BAD, x -> x.price(6));
    B.leaves("price(0)", 0, Place.ALONE, x -> x.price(0));
    int[] want = {3, 3, 2, 2, 2, 2};
    for (int q = 0; q < 6; q++) {
      int who = q;
      B.leaves("price(" + q + ")", want[q], Place.FULL, x -> x.price(who));
    }
  }

  private static void promise29LeastHurt() {
    B.of(29);
    for (int last = 1; last <= 9; last++) {
      for (int spade : new int[] {0, 1, last - 1, last, last + 1, 19, 20}) {
        OneAnger x = Check.told("last " + last + ";" + CALM.repeat(5) + "one calm " + spade + " 0 0 0 1;");
        int least = 0;
        while (Math.min(least * last, 4 * least + 20) < spade) {
          least++;
        }
        B.due("SPADE " + spade + ", LAST " + last, least, x.price(5));
        B.due("the first of them", 0, x.price(0));
      }
    }
    OneAnger x = Check.told("last 1;one calm 20 0 0 0 1;" + CALM);
    B.due("the greatest", 20, x.price(0));
    // For his guard himself 1 is open all the same.
    x = Check.told("one guard 0 0 5 20 4 kin 1;one calm 20 0 0 0 1;" + CALM);
    B.due("kept from 2, not from his guard", 5, x.price(1));
    x = Check.told("one quick 20 0 4 20 4;" + CALM);
    B.due("4 are left to keep", 1, x.price(0));
    x.set(0, 3, 5);
    B.due("none are", 0, x.price(0));
  }

  // ---- 30

  private static void promise30Numbers() {
    B.of(30);
    B.outside("ring(%d)", 0, 2, BAD, OneAnger::ring);
    int[][] want = {{NONE, NONE, NONE}, {NONE, NONE, NONE}, {2, 2, 6}, {NONE, NONE, NONE}, {4, 6, 15}};
    for (int i = 0; i < 5; i++) {
      for (int what = 0; what <= 2; what++) {
        int w = what;
        B.leaves("ring(" + what + ")", want[i][what], Place.ALL[i], x -> x.ring(w));
      }
    }
  }

  private static void promise30FromTwoToSix() {
    B.of(30);
    for (int n = 2; n <= 6; n++) {
      for (int first = 0; first + n <= 6; first++) {
        OneAnger x = Check.told(CALM.repeat(6));
        for (int i = 0; i < n; i++) {
          B.due("no RING yet", NONE, x.ring(0));
          x.point(first + i, first + (i + 1) % n);
        }
        B.due("shortest of " + n, n, x.ring(0));
        B.due("longest of " + n, n, x.ring(1));
        B.due("bits of " + n, ((1 << n) - 1) << first, x.ring(2));
        x.rest(first, first + 1);
        B.due("a way is none", NONE, x.ring(0));
        B.due("a way is none, longest", NONE, x.ring(1));
        B.due("a way is none, bits", NONE, x.ring(2));
      }
    }
    OneAnger x = Check.told("one calm 0 0 0 0 1 sea;".repeat(6));
    B.due("THE SEA is in no RING", NONE, x.ring(0));
    x = Check.told(CALM.repeat(6));
    for (int p = 0; p < 6; p++) {
      x.point(p, p ^ 1);
    }
    B.due("three of two", 2, x.ring(0));
    B.due("none is longer", 2, x.ring(1));
    B.due("the least bits", 3, x.ring(2));
    x.rest(0, 1);
    B.due("the least bits then", 12, x.ring(2));
    x.rest(2, 3);
    B.due("the last two", 48, x.ring(2));
  }

  public static void main(String[] args) {
    promise24NoneToAll();
    promise24OneAlone();
    promise25Numbers();
    promise25LeastBits();
    promise26NoneToAll();
    promise27Numbers();
    promise27FewerThanNow();
    promise28Numbers();
    promise28EnoughHurt();
    promise29Numbers();
    promise29LeastHurt();
    promise30Numbers();
    promise30FromTwoToSix();
    B.end(24, 30);
  }
}
