/** Promises 31 to 33: seeing wrongly by chance. */
public final class ChancesTest {
  private static final Check CHECK = new Check("ChancesTest");

  private static void due(String call, long want, long got) {
    CHECK.due(call, want, got);
  }

  private static void oddsAre(OneAnger x, int p, int q, long numerator, long denominator) {
    due("31: odds(" + p + ", " + q + ", 0)", numerator, x.odds(p, q, 0));
    due("31: odds(" + p + ", " + q + ", 1)", denominator, x.odds(p, q, 1));
  }

  private static void meanIs(OneAnger x, int p, long numerator, long denominator) {
    due("32: mean(" + p + ", 0)", numerator, x.mean(p, 0));
    due("32: mean(" + p + ", 1)", denominator, x.mean(p, 1));
  }

  private static void oneOther() {
    // 1 is free, and wronged if he is seen as taken.
    OneAnger x = Check.told("see 7;one calm 0 0 0 0 1;one quick 5 1 2 20 4;");
    oddsAre(x, 0, 1, 3, 10);
    oddsAre(x, 1, 0, 0, 1);
    meanIs(x, 0, -9, 10);
    meanIs(x, 1, 0, 1);
    due("33: 1", 1, x.likeliest(0));
    due("33: nobody", OneAnger.NONE, x.likeliest(1));
    x.point(1, 6);
    oddsAre(x, 0, 1, 7, 10);
    meanIs(x, 0, 7, 2);
    x.rest(1, 6);
    x.point(1, 0);
    // He is angry with 0 already, so that he would not be, free or not.
    oddsAre(x, 0, 1, 1, 1);
    meanIs(x, 0, 5, 1);
  }

  private static void feigns() {
    OneAnger x = Check.told("see 7;one calm 0 0 0 0 1;one feign 5 1 2 20 4;");
    oddsAre(x, 0, 1, 7, 10);
    meanIs(x, 0, -21, 10);
    x.point(1, 6);
    oddsAre(x, 0, 1, 7, 10);
    meanIs(x, 0, 7, 2);
  }

  private static void extremes() {
    OneAnger x = Check.told("one calm 0 0 0 0 1;one quick 5 1 2 20 4;");
    oddsAre(x, 0, 1, 0, 1);
    due("33: never", OneAnger.NONE, x.likeliest(0));
    x.point(1, 6);
    oddsAre(x, 0, 1, 1, 1);
    x = Check.told("see 0;one calm 0 0 0 0 1;one quick 5 1 2 20 4;");
    oddsAre(x, 0, 1, 1, 1);
    meanIs(x, 0, -3, 1);
    x.point(1, 6);
    oddsAre(x, 0, 1, 0, 1);
    x = Check.told("one calm 5 0 0 0 1;");
    meanIs(x, 0, 0, 1);
    due("33: one alone", OneAnger.NONE, x.likeliest(0));
  }

  private static void several() {
    // 1 is wronged if seen as taken, else 2 if he is, else nobody.
    OneAnger x = Check.told("see 5;one calm 0 0 0 0 1;one quick 7 1 2 20 4;one quick 5 1 2 20 4;");
    oddsAre(x, 0, 1, 1, 2);
    oddsAre(x, 0, 2, 1, 4);
    meanIs(x, 0, -5, 4);
    due("33: 1", 1, x.likeliest(0));
    x.set(1, 1, 5);
    oddsAre(x, 0, 1, 1, 2);
    x.set(2, 1, 7);
    oddsAre(x, 0, 1, 1, 4);
    oddsAre(x, 0, 2, 1, 2);
    due("33: 2", 2, x.likeliest(0));
    x = Check.told("see 5;one calm 0 0 0 0 1;one calm 1 0 0 0 1;one quick 5 1 2 20 4;");
    oddsAre(x, 0, 1, 1, 2);
    oddsAre(x, 0, 2, 1, 2);
    due("33: of several the least", 1, x.likeliest(0));
    // All of six: five others to be seen, one of whom is worth it if seen as taken.
    x = Check.told("see 9;one calm 0 0 0 0 1;one quick 1 0 1 20 4;one quick 2 0 1 20 4;"
        + "one quick 3 0 1 20 4;one quick 4 0 1 20 4;one quick 5 0 2 20 4;");
    oddsAre(x, 0, 5, 1, 10);
    oddsAre(x, 0, 4, 9, 100);
    oddsAre(x, 0, 3, 81, 1000);
    oddsAre(x, 0, 2, 729, 10000);
    oddsAre(x, 0, 1, 6561, 100000);
    due("33: 5", 5, x.likeliest(0));
    // -3/10 0*9/100 -81/1000 -2*729/10000 -3*6561/100000
    meanIs(x, 0, -72363, 100000);
  }

  private static void theFirst() {
    OneAnger x = Check.told("see 7;one quick 5 1 2 20 4;one calm 0 0 0 0 1;");
    oddsAre(x, 1, 0, 3, 10);
    meanIs(x, 1, -9, 10);
    due("33: 0", 0, x.likeliest(1));
  }

  private static void guards() {
    // 1 is kept by 2, whom 0 sees as free in 4 of 10.
    OneAnger x = Check.told("see 6;one calm 0 0 0 0 1;one calm 5 1 0 0 1;one guard 0 0 2 20 4 kin 1 sea;");
    oddsAre(x, 0, 1, 3, 5);
    // The guard himself is not hindered, and sees nobody else.
    oddsAre(x, 2, 1, 1, 1);
    meanIs(x, 0, 3, 1);
  }

  private static void wrongNumbers() {
    OneAnger x = Check.told("one calm 0 0 0 0 1;one quick 5 1 2 20 4;");
    int[] noOnes = {-1, 2, 6, Integer.MIN_VALUE, Integer.MAX_VALUE};
    for (int p : noOnes) {
      due("31: odds(" + p + ", 0, 0)", OneAnger.BAD, x.odds(p, 0, 0));
      due("31: odds(0, " + p + ", 0)", OneAnger.BAD, x.odds(0, p, 0));
      due("32: mean(" + p + ", 0)", -1000000, x.mean(p, 0));
      due("33: likeliest(" + p + ")", OneAnger.BAD, x.likeliest(p));
    }
    due("31: himself", OneAnger.BAD, x.odds(1, 1, 0));
    due("31: what -1", OneAnger.BAD, x.odds(0, 1, -1));
    due("31: what 2", OneAnger.BAD, x.odds(0, 1, 2));
    due("32: what -1", -1000000, x.mean(0, -1));
    due("32: what 2", -1000000, x.mean(0, 2));
  }

  public static void main(String[] args) {
    oneOther();
    feigns();
    extremes();
    several();
    theFirst();
    guards();
    wrongNumbers();
    CHECK.end();
  }
}
