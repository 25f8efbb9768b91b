/** Promises 24 to 30: whether nobody gains, who must be free, HIRED ONES, RINGS. */
public final class GainsTest {
  private static final Check CHECK = new Check("GainsTest");

  private static void due(String call, long want, long got) {
    CHECK.due(call, want, got);
  }

  private static long bits(int... wrongs) {
    long sum = 0L;
    for (int i = 0; i < wrongs.length; i += 2) {
      sum |= 1L << (6 * wrongs[i] + wrongs[i + 1]);
    }
    return sum;
  }

  private static void openWrongs() {
    OneAnger x = Check.told("one quick 5 1 1 20 4;one quick 3 2 2 20 4;one feign 1 0 20 20 4;");
    due("24: 1, 2 to 0; all to the feign", bits(1, 0, 2, 0, 0, 2, 1, 2), x.open());
    due("18: not SAFE", 0, x.now(4));
    x.set(0, 1, 4);
    x.set(2, 1, 0);
    due("24: none", 0, x.open());
    due("18: SAFE", 1, x.now(4));
    x.point(1, 6);
    due("24: 1 is taken", bits(0, 1, 2, 1), x.open());
    x = Check.told("one calm 1 0 0 0 1;one calm 1 0 0 0 1;one calm 1 0 0 0 1;"
        + "one calm 1 0 0 0 1;one calm 1 0 0 0 1;one calm 1 0 0 0 1;");
    long all = 0L;
    for (int p = 0; p < 6; p++) {
      all |= (63L & ~(1L << p)) << (6 * p);
    }
    due("24: all of six", all, x.open());
    due("26: all of six", 63, x.always());
  }

  private static void fewestFree() {
    OneAnger x = Check.told("one quick 4 1 1 20 4;one quick 3 2 2 20 4 sea;one calm 0 0 0 0 1;");
    due("25: two", 2, x.fewest(0));
    due("25: these", 3, x.fewest(1));
    due("26: none", 0, x.always());
    due("25: nothing is changed", 64, x.one(1, 8));
    x.set(0, 1, 5);
    due("25: by none", OneAnger.NONE, x.fewest(0));
    due("25: none", OneAnger.NONE, x.fewest(1));
    due("26: 0", 1, x.always());
    due("25: what -1", OneAnger.BAD, x.fewest(-1));
    due("25: what 2", OneAnger.BAD, x.fewest(2));
    x = Check.told("one calm 0 0 0 0 1 sea;one calm 0 0 0 0 1;");
    due("25: nobody need be", 0, x.fewest(0));
    due("25: empty", 0, x.fewest(1));
    // 1 can be kept by himself or by his guard, but the guard is no danger to him.
    x = Check.told("law 2;one calm 0 0 0 0 1;one quick 5 0 2 20 4 sea;one guard 0 0 9 20 4 kin 1 angry 0;");
    due("25: he alone", 1, x.fewest(0));
    due("25: 1, not 2, whom nobody keeps 1 from", 2, x.fewest(1));
    due("24: both are ready for it but against 0", 0L, x.open());
    x = Check.told("one feign 1 0 20 20 4;one calm 0 0 0 0 1;");
    due("26: a feign is thought not to be free", 1, x.always());
    due("25: by none", OneAnger.NONE, x.fewest(0));
    x = Check.told("one guard 0 0 9 20 4 kin 2;one guard 0 0 9 20 4 kin 2;one calm 5 0 0 0 1;");
    due("26: a guard alone can wrong his kin, the other one hinders it", 0, x.always());
    due("25: both", 3, x.fewest(1));
    x = Check.told("one calm 0 0 0 0 1;one calm 1 0 0 0 1;one guard 0 0 9 20 4 kin 1;");
    due("26: for the guard himself", 2, x.always());
    // Several of one size: the least bits.
    x = Check.told("one quick 0 0 0 0 1;one guard 0 0 5 20 4 kin 3;one guard 0 0 5 20 4 kin 3;one quick 9 0 5 20 4;");
    due("25: 3 himself", 8, x.fewest(1));
    x.set(3, 0, 4);
    due("25: both guards", 6, x.fewest(1));
  }

  private static void oneMore() {
    OneAnger x = Check.told("one quick 3 0 2 20 4 sea;one quick 4 0 2 20 4 sea;one calm 0 0 0 0 1;one feign 2 0 9 20 4 sea;");
    due("24: all to all three", 9, Long.bitCount(x.open()));
    due("27: of several the least", 0, x.where(0));
    due("27: how many fewer", 3, x.where(1));
    due("27: nothing is changed", 64, x.one(0, 8));
    x.rest(0, 6);
    due("27: the other one", 1, x.where(0));
    due("27: three fewer", 3, x.where(1));
    x.rest(1, 6);
    due("27: a feign does no good", OneAnger.NONE, x.where(0));
    due("27: none", OneAnger.NONE, x.where(1));
    due("27: what -1", OneAnger.BAD, x.where(-1));
    due("27: what 2", OneAnger.BAD, x.where(2));
    x = Check.told("one quick 3 0 0 20 4 sea;one guard 4 0 2 20 4 kin 2 sea;one calm 5 0 0 0 1;");
    due("27: the guard", 1, x.where(0));
    due("27: of himself and of his kin", 3, x.where(1));
    x = Check.told("law 2;one quick 3 0 2 20 4 sea angry 1;one calm 0 0 0 0 1;one calm 0 0 0 0 1;");
    due("27: with no anger at all", 2, x.where(1));
    x = Check.told("one quick 3 0 2 20 4 sea;one calm 0 0 0 0 1;");
    due("27: one wrong fewer is enough", 0, x.where(0));
    due("27: one fewer", 1, x.where(1));
    x = Check.told("one calm 0 0 0 0 1;one calm 3 0 0 0 1;");
    due("26: 1 for 0 alone", 2, x.always());
    due("29: 1 for 0 alone", 1, x.price(1));
  }

  private static void hiring() {
    OneAnger x = Check.told("one calm 8 0 0 0 1;one calm 9 0 0 0 1;one calm 0 0 0 0 1;");
    due("28: 2 times 4 keeps 0", 0, x.hire(2, 0));
    due("28: two fewer", 2, x.hire(2, 1));
    due("28: too little", OneAnger.NONE, x.hire(1, 0));
    due("28: too little, how many", OneAnger.NONE, x.hire(1, 1));
    due("28: no HURT", OneAnger.NONE, x.hire(0, 0));
    due("28: most", 2, x.hire(99, 1));
    due("28: h -1", OneAnger.BAD, x.hire(-1, 0));
    due("28: h 100", OneAnger.BAD, x.hire(100, 0));
    due("28: what -1", OneAnger.BAD, x.hire(1, -1));
    due("28: what 2", OneAnger.BAD, x.hire(1, 2));
    due("28: gone behind it", 3, x.count(0));
    due("28: no guard stays", 0, x.count(1));
    due("29: 8", 2, x.price(0));
    due("29: 9", 3, x.price(1));
    due("29: 0", 0, x.price(2));
    due("29: p 3", OneAnger.BAD, x.price(3));
    due("29: p -1", OneAnger.BAD, x.price(-1));
    // 0 is worth wronging for 1 alone (2 hinders others, but is taken), 1 for two.
    x = Check.told("one calm 5 0 0 0 1;one calm 6 0 0 0 1;one guard 0 0 9 20 4 kin 0;");
    due("24: who", bits(2, 0, 0, 1, 2, 1), x.open());
    due("28: where it does most", 1, x.hire(20, 0));
    due("28: two", 2, x.hire(20, 1));
    due("28: enough for 0 alone", 1, x.hire(2, 0));
    due("29: 0", 2, x.price(0));
    x.set(1, 1, 9);
    due("28: it is enough for 0 alone", 0, x.hire(2, 0));
    due("28: one", 1, x.hire(2, 1));
    // Making up, by PRICE 20 and DAYS 4, is dearer than LAST 9 only from HURT 5 on.
    x = Check.told("last 9;one calm 20 0 0 0 1;one calm 0 0 0 0 1;");
    due("29: 3 times 9", 3, x.price(0));
    x = Check.told("last 1;one calm 20 0 0 0 1;one calm 0 0 0 0 1;");
    due("29: 20 times 1", 20, x.price(0));
    due("29: one alone", 0, Check.told("one calm 20 0 0 0 1;").price(0));
    // Who is himself ready adds to it.
    x = Check.told("one quick 9 0 1 20 4;one calm 0 0 0 0 1;");
    due("29: 5 are left", 2, x.price(0));
  }

  private static void rings() {
    String calm = "one calm 0 0 0 0 1";
    OneAnger x = Check.told("law 2;" + (calm + ";").repeat(6));
    due("30: none", OneAnger.NONE, x.ring(0));
    due("30: none, longest", OneAnger.NONE, x.ring(1));
    due("30: none, bits", OneAnger.NONE, x.ring(2));
    for (int p = 0; p < 6; p++) {
      x.point(p, (p + 1) % 6);
    }
    due("30: all six", 6, x.ring(0));
    due("30: all six, longest", 6, x.ring(1));
    due("30: all six, bits", 63, x.ring(2));
    x.point(5, 3);
    due("30: 3, 4, 5", 3, x.ring(0));
    due("30: six still", 6, x.ring(1));
    due("30: bits", 56, x.ring(2));
    x.point(2, 1);
    due("30: 1, 2", 2, x.ring(0));
    due("30: 1, 2, bits", 6, x.ring(2));
    x.rest(2, 1);
    x.point(2, 0);
    due("30: of two with three the least bits", 7, x.ring(2));
    x.rest(0, 1);
    due("30: the longest", 3, x.ring(1));
    x.rest(5, 3);
    due("30: a way is no ring", OneAnger.NONE, x.ring(0));
    due("30: what -1", OneAnger.BAD, x.ring(-1));
    due("30: what 3", OneAnger.BAD, x.ring(3));
    // 0 to 1 to 2 to 0 with 1 to 0 as well; not the least of it first.
    x = Check.told("law 2;" + (calm + ";").repeat(4));
    x.point(0, 3);
    x.point(3, 1);
    x.point(1, 2);
    x.point(2, 0);
    due("30: 0, 3, 1, 2", 4, x.ring(0));
    x.point(1, 3);
    due("30: 1, 3", 10, x.ring(2));
    due("30: longest", 4, x.ring(1));
    // Of two ways through all three the one that does not come last closes.
    x = Check.told("law 2;" + (calm + ";").repeat(3));
    x.point(0, 1);
    x.point(0, 2);
    x.point(1, 2);
    x.point(1, 0);
    x.point(2, 1);
    due("30: 0, 2, 1", 3, x.ring(1));
    // Two rings that share a ONE are no greater ring.
    x = Check.told("law 2;" + (calm + ";").repeat(3));
    x.point(0, 1);
    x.point(1, 0);
    x.point(1, 2);
    x.point(2, 1);
    due("30: each once", 2, x.ring(1));
    due("30: least bits", 3, x.ring(2));
  }

  public static void main(String[] args) {
    openWrongs();
    fewestFree();
    oneMore();
    hiring();
    rings();
    CHECK.end();
  }
}
