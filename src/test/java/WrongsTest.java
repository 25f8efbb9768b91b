/** Promises 13 to 16: who WOULD be angry, WORTH, whom, a wrong. */
public final class WrongsTest {
  private static final Check CHECK = new Check("WrongsTest");

  private static void due(String call, long want, long got) {
    CHECK.due(call, want, got);
  }

  // COSTS (LAST 4): quick 4, keeper 8, guard 6 (made up), feign 12, calm 16, quick 2.
  private static OneAnger sixSorts() {
    return Check.told("one quick 9 1 1 20 4;"
        + "one keeper 8 5 2 20 4 keep 5;"
        + "one guard 7 2 5 1 1 kin 1;"
        + "one feign 6 1 3 20 4;"
        + "one calm 2 3 4 20 4;"
        + "one guard 3 4 1 0 2 kin 3;");
  }

  private static void whoWould() {
    OneAnger x = sixSorts();
    due("13: quick himself", 1, x.would(1, 0));
    due("13: keeper of a great wrong, and his guard", 6, x.would(0, 1));
    due("13: the guard wrongs his kin", 2, x.would(2, 1));
    due("13: guard himself", 4, x.would(0, 2));
    due("13: feign, and his guard", 40, x.would(0, 3));
    due("13: calm never", 0, x.would(0, 4));
    due("13: keeper's HARM is below KEEP", 5, x.set(1, 6, 6));
    due("13: guard alone then", 4, x.would(0, 1));
    due("13: nobody, if he wrongs him", 0, x.would(2, 1));
    x.set(1, 6, 4);
    due("13: keeper, HARM above KEEP", 6, x.would(0, 1));
    due("13: a keeper who is quick", 1, x.set(1, 0, 0));
    x.set(1, 6, 20);
    due("13: KEEP is nothing to him", 6, x.would(0, 1));
    x.set(2, 0, 0);
    due("13: KIN is nothing to a quick one", 2, x.would(0, 1));
  }

  private static void whoIsFree() {
    OneAnger x = sixSorts();
    x.point(2, 6);
    due("13: one angry with the sea is not free", 2, x.would(0, 1));
    x.rest(2, 6);
    x.point(2, 0);
    due("13: one angry with p is not, either", 2, x.would(0, 1));
    due("13: nor for another one", 2, x.would(3, 1));
    x = Check.told("law 2;one calm 0 0 0 0 1;one quick 5 1 1 20 4 angry 0;one calm 0 0 0 0 1;");
    due("7: free by a law of two", 1, x.one(1, 9));
    due("13: angry with p already", 0, x.would(0, 1));
    due("13: not with this one", 2, x.would(2, 1));
    due("14: no COST", 5, x.worth(0, 1, 1));
    due("14: COST", 1, x.worth(2, 1, 1));
    x.point(1, 6);
    due("13: two are LAW", 0, x.would(2, 1));
  }

  private static void worths() {
    OneAnger x = sixSorts();
    due("14: quick", 5, x.worth(1, 0, 0));
    due("14: keeper and guard", -6, x.worth(0, 1, 0));
    due("14: keeper alone", 0, x.worth(2, 1, 1));
    due("14: feign as seen", 4, x.worth(0, 3, 0));
    due("14: feign as it is", -8, x.worth(0, 3, 1));
    due("14: calm", 2, x.worth(0, 4, 0));
    due("15: 4 of feign (seen) and 2 of calm, 1 of guards", 3, x.whom(0));
    due("15: quick", 0, x.whom(1));
    x.set(0, 1, 8);
    due("15: of several the least", 0, x.whom(1));
    due("14: is 4 too", 4, x.worth(1, 3, 0));
    x.set(3, 1, 7);
    due("15: greater", 3, x.whom(1));
    x = Check.told("one quick 4 1 1 20 4;one calm 0 0 0 0 1;");
    due("14: 0 is not above 0", 0, x.worth(1, 0, 0));
    due("15: nobody", OneAnger.NONE, x.whom(1));
    due("15: nor here", OneAnger.NONE, x.whom(0));
    due("15: one alone", OneAnger.NONE, Check.told("one calm 9 0 0 0 1;").whom(0));
  }

  private static void oneWrong() {
    OneAnger x = sixSorts();
    due("16: as it is", -8, x.wrong(0, 3));
    due("10: SPADE", 6, x.got(0));
    due("10: HARM", -1, x.got(3));
    due("7: feign is angry", 1, x.one(3, 8));
    due("7: his guard is", 1, x.one(5, 8));
    due("9: 0 old", 0, x.old(3, 0));
    due("16: nobody is left", 6, x.wrong(1, 3));
    due("10: HARM again", -2, x.got(3));
    due("7: feign is as before", 1, x.one(3, 8));
    due("18: no WEEK", 0, x.now(0));
    due("18: not by go()", 0, x.now(1));
    due("18: no wrong by go()", 0, x.now(2));
    due("18: ANGERS", 2, x.now(5));
    due("16: not worth it, but done", -6, x.wrong(0, 1));
    due("18: ANGERS then", 4, x.now(5));
  }

  private static void wrongNumbers() {
    OneAnger x = sixSorts();
    int[] noOnes = {-1, 6, 7, Integer.MIN_VALUE, Integer.MAX_VALUE};
    for (int p : noOnes) {
      due("13: would(" + p + ", 0)", OneAnger.BAD, x.would(p, 0));
      due("13: would(0, " + p + ")", OneAnger.BAD, x.would(0, p));
      due("14: worth(" + p + ", 0, 0)", -1000000, x.worth(p, 0, 0));
      due("14: worth(0, " + p + ", 1)", -1000000, x.worth(0, p, 1));
      due("15: whom(" + p + ")", OneAnger.BAD, x.whom(p));
      due("16: wrong(" + p + ", 0)", -1000000, x.wrong(p, 0));
      due("16: wrong(0, " + p + ")", -1000000, x.wrong(0, p));
    }
    due("13: himself", OneAnger.BAD, x.would(2, 2));
    due("14: himself", -1000000, x.worth(2, 2, 0));
    due("16: himself", -1000000, x.wrong(2, 2));
    due("14: what -1", -1000000, x.worth(0, 1, -1));
    due("14: what 2", -1000000, x.worth(0, 1, 2));
    due("16: nothing was done", 0, x.now(5));
  }

  public static void main(String[] args) {
    whoWould();
    whoIsFree();
    worths();
    oneWrong();
    wrongNumbers();
    CHECK.end();
  }
}
