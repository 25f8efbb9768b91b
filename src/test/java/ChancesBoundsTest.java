/** Bounds of promises 31 to 33: seeing wrongly by chance. */
public final class ChancesBoundsTest {
  private static final Bounds B = new Bounds("ChancesBoundsTest");
  private static final int BAD = OneAnger.BAD, NONE = OneAnger.NONE;
  private static final int FAR_BAD = -1000000;
  private static final String CALM = "one calm 0 0 0 0 1;";

  private static long divisor(long a, long b) {
    return b == 0 ? Math.abs(a) : divisor(b, a % b);
  }

  private static void fraction(String call, long top, long below, long gotTop, long gotBelow) {
    long by = divisor(top, below);
    B.due(call + ", numerator", top / by, gotTop);
    B.due(call + ", denominator", below / by, gotBelow);
  }

  private static void lowestTerms(String call, long top, long below) {
    B.due(call + ", denominator above 0", 1, below > 0 ? 1 : 0);
    B.due(call + ", lowest terms", 1, divisor(top, below));
  }

  // ---- 31

  private static void promise31Numbers() {
    B.of(31);
    for (int what = 0; what <= 1; what++) {
      int w = what;
      B.noSuchOne("odds(%d, 0, " + what + ")", BAD, (x, p) -> x.odds(p, 0, w));
      B.noSuchOne("odds(0, %d, " + what + ")", BAD, (x, q) -> x.odds(0, q, w));
      B.everywhere("odds(0, 6, " + what + ")", BAD, x -> x.odds(0, 6, w));
      for (Place at : Place.ALL) {
        for (int p = 0; p < at.people; p++) {
          int who = p;
          B.leaves("odds(" + p + ", " + p + ", " + what + ")", BAD, at, x -> x.odds(who, who, w));
        }
      }
    }
    B.outside("odds(0, 1, %d)", 0, 1, BAD, (x, what) -> x.odds(0, 1, what));
  }

  private static void promise31EverySee() {
    B.of(31);
    for (int see = 0; see <= 10; see++) {
      OneAnger x = Check.told("see " + see + ";" + CALM + "one quick 8 0 2 20 4;one quick 8 0 2 20 4 sea;");
      // 1 is FREE: wronged if seen turned round. 2 is not: wronged if seen rightly, and 1 is not wronged.
      fraction("FREE, SEE " + see, 10 - see, 10, x.odds(0, 1, 0), x.odds(0, 1, 1));
      fraction("not FREE, SEE " + see, (long) see * see, 100, x.odds(0, 2, 0), x.odds(0, 2, 1));
      x = Check.told("see " + see + ";" + CALM + "one feign 8 0 2 20 4;");
      fraction("a FEIGN, SEE " + see, see, 10, x.odds(0, 1, 0), x.odds(0, 1, 1));
      x.point(1, 6);
      fraction("a FEIGN who is not FREE, SEE " + see, see, 10, x.odds(0, 1, 0), x.odds(0, 1, 1));
    }
  }

  private static void promise31NoughtAndOne() {
    B.of(31);
    OneAnger x = Check.told("see 5;" + CALM + "one calm 1 0 0 0 1;");
    B.due("surely", 1, x.odds(0, 1, 0));
    B.due("1 by 1", 1, x.odds(0, 1, 1));
    B.due("never", 0, x.odds(1, 0, 0));
    B.due("0 is 0 by 1", 1, x.odds(1, 0, 1));
    for (int spade = 7; spade <= 9; spade++) {
      x = Check.told("see 1;" + CALM + "one quick " + spade + " 0 2 20 4;");
      fraction("WORTH " + (spade - 8) + " if he is seen as FREE", spade > 8 ? 10 : 9, 10, x.odds(0, 1, 0), x.odds(0, 1, 1));
    }
    // 1 is worth it, if he and his four guards are all seen turned round: the greatest denominator.
    for (int see = 0; see <= 10; see++) {
      x = Check.told("see " + see + ";" + CALM + "one quick 1 0 1 20 4;" + "one guard 0 0 1 20 4 kin 1;".repeat(4));
      long turned = 10 - see;
      long all = turned * turned * turned * turned * turned;
      fraction("five of five wrongly, SEE " + see, all, 100000, x.odds(0, 1, 0), x.odds(0, 1, 1));
    }
  }

  private static void promise31LowestTermsOfAll() {
    B.of(31);
    for (Place at : Place.ALL) {
      for (int p = 0; p < at.people; p++) {
        long sum = 0L;
        for (int q = 0; q < at.people; q++) {
          int who = p;
          int whom = q;
          if (p != q) {
            long top = at.make().odds(p, q, 0);
            long below = at.make().odds(p, q, 1);
            lowestTerms("odds(" + p + ", " + q + ")", top, below);
            B.leaves("odds(" + p + ", " + q + ", 0)", top, at, x -> x.odds(who, whom, 0));
            B.leaves("odds(" + p + ", " + q + ", 1)", below, at, x -> x.odds(who, whom, 1));
            sum += top * 100000 / below;
          }
        }
        B.due("all are 1 at most", 1, sum <= 100000 ? 1 : 0);
      }
    }
  }

  // ---- 32

  private static void promise32Numbers() {
    B.of(32);
    for (int what = 0; what <= 1; what++) {
      int w = what;
      B.noSuchOne("mean(%d, " + what + ")", FAR_BAD, (x, p) -> x.mean(p, w));
      B.everywhere("mean(6, " + what + ")", FAR_BAD, x -> x.mean(6, w));
    }
    B.outside("mean(0, %d)", 0, 1, FAR_BAD, (x, what) -> x.mean(0, what));
    B.leaves("mean(0, 0)", 0, Place.ALONE, x -> x.mean(0, 0));
    B.leaves("mean(0, 1)", 1, Place.ALONE, x -> x.mean(0, 1));
    for (Place at : Place.ALL) {
      for (int p = 0; p < at.people; p++) {
        int who = p;
        long top = at.make().mean(p, 0);
        long below = at.make().mean(p, 1);
        lowestTerms("mean(" + p + ")", top, below);
        B.leaves("mean(" + p + ", 0)", top, at, x -> x.mean(who, 0));
        B.leaves("mean(" + p + ", 1)", below, at, x -> x.mean(who, 1));
      }
    }
  }

  private static void promise32EverySee() {
    B.of(32);
    for (int see = 0; see <= 10; see++) {
      for (int spade = 7; spade <= 9; spade++) {
        OneAnger x = Check.told("see " + see + ";" + CALM + "one quick " + spade + " 0 2 20 4;");
        int tenths = spade > 8 ? 10 : 10 - see;
        fraction("WORTH " + (spade - 8) + ", SEE " + see, (long) tenths * (spade - 8), 10, x.mean(0, 0), x.mean(0, 1));
      }
    }
    OneAnger x = Check.told("see 0;" + CALM + "one calm 20 0 0 0 1;");
    fraction("the greatest", 20, 1, x.mean(0, 0), x.mean(0, 1));
    x = Check.told("see 0;last 9;one quick 1 0 20 20 4;" + "one guard 0 0 20 20 4 kin 0;".repeat(5));
    fraction("the least", 1 - 500, 1, x.mean(5, 0), x.mean(5, 1));
    x = Check.told("see 9;one quick 7 0 2 20 4;" + CALM);
    fraction("below 0", -1, 10, x.mean(1, 0), x.mean(1, 1));
    fraction("nobody: 0 by 1", 0, 1, x.mean(0, 0), x.mean(0, 1));
  }

  // ---- 33

  private static void promise33Numbers() {
    B.of(33);
    B.noSuchOne("likeliest(%d)", BAD, OneAnger::likeliest);
    B.everywhere("likeliest(6)", BAD, x -> x.likeliest(6));
    B.leaves("likeliest(0)", NONE, Place.ALONE, x -> x.likeliest(0));
    for (int see = 0; see <= 10; see++) {
      OneAnger x = Check.told("see " + see + ";" + CALM + "one calm 1 0 0 0 1;one quick 8 0 2 20 4;");
      // 2 is wronged by 10 - SEE of 10, else 1.
      B.due("SEE " + see, see >= 5 ? 1 : 2, x.likeliest(0));
      x = Check.told("see " + see + ";" + CALM + "one quick 8 0 2 20 4;");
      B.due("nobody at all, if surely seen, SEE " + see, see == 10 ? NONE : 1, x.likeliest(0));
      B.due("nobody is worth it", NONE, x.likeliest(1));
    }
    OneAnger x = Check.told("see 4;" + "one calm 3 0 0 0 1;".repeat(6));
    for (int p = 0; p < 6; p++) {
      B.due("surely the least", p == 0 ? 1 : 0, x.likeliest(p));
    }
    x.set(5, 1, 4);
    B.due("the last one", 5, x.likeliest(0));
  }

  public static void main(String[] args) {
    promise31Numbers();
    promise31EverySee();
    promise31NoughtAndOne();
    promise31LowestTermsOfAll();
    promise32Numbers();
    promise32EverySee();
    promise33Numbers();
    B.end(31, 33);
  }
}
