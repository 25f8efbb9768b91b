/** Promises 17 to 23: WEEKS that go, and those that would. */
public final class WeeksTest {
  private static final Check CHECK = new Check("WeeksTest");

  private static void due(String call, long want, long got) {
    CHECK.due(call, want, got);
  }

  // 1 wrongs 0 each WEEK; 0 is angry with him from the first WEEK to the fourth, and so on.
  private static final String LASTING = "one quick 5 1 1 20 4;one quick 3 2 2 20 4;";
  // 1 wrongs 0 and makes up in the same WEEK.
  private static final String MAKING_UP = "one quick 6 1 3 2 1;one calm 0 0 0 0 1;";

  private static void lasting() {
    OneAnger x = Check.told(LASTING);
    due("18: not SAFE", 0, x.now(4));
    due("17: go(1)", 1, x.go(1));
    due("10: 5 less 1", 4, x.got(1));
    due("10: HARM", -1, x.got(0));
    due("9: 1 old", 1, x.old(0, 1));
    due("18: WEEK", 1, x.now(0));
    due("18: FREE", 2, x.now(3));
    due("18: ANGERS", 1, x.now(5));
    due("17: go(2)", 2, x.go(2));
    due("10: 15 less 3", 12, x.got(1));
    due("9: 3 old", 3, x.old(0, 1));
    due("17: go(1)", 1, x.go(1));
    due("9: ended", OneAnger.NONE, x.old(0, 1));
    due("10: 20 less 4", 16, x.got(1));
    due("18: WEEK 4", 4, x.now(0));
    due("18: HARM DONE", 4, x.now(1));
    due("18: wrongs", 4, x.now(2));
    due("17: go(99)", 99, x.go(99));
    due("18: WEEK 103", 103, x.now(0));
    due("18: HARM DONE then", 103, x.now(1));
    due("18: wrongs then", 103, x.now(2));
  }

  private static void makingUp() {
    OneAnger x = Check.told(MAKING_UP);
    due("14: WORTH", 1, x.worth(1, 0, 0));
    due("17: go(1)", 1, x.go(1));
    due("10: WORTH is what he GOT", 1, x.got(1));
    due("10: PRICE less HARM", 1, x.got(0));
    due("9: made up", OneAnger.NONE, x.old(0, 1));
    x = Check.told("one quick 6 1 1 3 1;one calm 0 0 0 0 1;");
    x.point(0, 1);
    x.set(0, 1, 0);
    x.go(1);
    due("9: PRICE 3 is not below 1 times 3", 1, x.old(0, 1));
    due("10: HURT alone", -1, x.got(1));
    x.set(0, 4, 2);
    x.go(1);
    due("9: PRICE 2 is not below 1 times 2", 2, x.old(0, 1));
    x.set(0, 4, 0);
    x.set(0, 5, 4);
    x.go(1);
    due("9: DAYS are not over", 3, x.old(0, 1));
    x.go(1);
    due("9: LAST", OneAnger.NONE, x.old(0, 1));
    due("10: got(1)", -4, x.got(1));
    due("10: got(0)", 0, x.got(0));
    x = Check.told("one calm 0 0 2 3 3;one calm 0 0 0 0 1;last 5;");
    x.point(0, 1);
    x.go(2);
    due("9: 2 old", 2, x.old(0, 1));
    x.go(1);
    due("9: made up with 3 DAYS", OneAnger.NONE, x.old(0, 1));
    due("10: 3 times 2 and 3", -9, x.got(1));
    due("10: got 3", 3, x.got(0));
  }

  private static void oneByOne() {
    // Each wrongs 2, who is quick but can be angry with the first alone.
    OneAnger x = Check.told("one calm 0 0 0 0 1;one calm 0 0 0 0 1;one quick 4 3 2 20 4;last 2;");
    due("14: not worth it", 0, x.worth(0, 2, 0));
    due("17: none", 0, x.go(1));
    x.set(2, 1, 5);
    due("17: two wrongs", 6, x.go(1));
    due("10: the first has it", 3, x.got(0));
    due("10: the second gets away", 5, x.got(1));
    due("10: both did harm", -6, x.got(2));
    due("9: with the first", 1, x.old(2, 0));
    due("9: not with the second", OneAnger.NONE, x.old(2, 1));
    due("18: wrongs", 2, x.now(2));
    x = Check.told("law 2;one calm 0 0 0 0 1;one calm 0 0 0 0 1;one feign 5 3 7 20 4;one calm 0 0 0 0 1;");
    due("17: three wrongs", 9, x.go(1));
    due("10: angry with the first", -2, x.got(0));
    due("10: and the second", -2, x.got(1));
    due("10: the third gets away", 5, x.got(3));
    due("7: feign's ANGERS", 3, x.one(2, 8));
    due("15: he is still thought to be taken", 2, x.whom(0));
  }

  private static void asItWouldBe() {
    OneAnger x = Check.told(LASTING);
    x.go(1);
    due("19: none in no WEEK", 0, x.run(0, 0));
    due("19: no wrongs", 0, x.run(0, 1));
    due("19: nobody wronged", 0, x.run(0, 2));
    due("19: FREE now", 2, x.run(0, 3));
    due("19: GOT nothing", 0, x.run(0, 11));
    due("19: HARM DONE", 3, x.run(3, 0));
    due("19: wrongs", 3, x.run(3, 1));
    due("19: who", 2, x.run(3, 2));
    due("19: FREE then", 3, x.run(3, 3));
    due("19: FREE before", 2, x.run(2, 3));
    due("19: 0 GOT", -3, x.run(3, 10));
    due("19: 1 GOT", 12, x.run(3, 11));
    due("19: 99 WEEKS", 99, x.run(99, 0));
    due("19: nothing is changed", 1, x.now(0));
    due("19: nor GOT", 4, x.got(1));
    due("19: nor ages", 1, x.old(0, 1));
    due("19: n -1", -1000000, x.run(-1, 0));
    due("19: n 100", -1000000, x.run(100, 0));
    due("19: what -1", -1000000, x.run(1, -1));
    due("19: what 4", -1000000, x.run(1, 4));
    due("19: what 9", -1000000, x.run(1, 9));
    due("19: no such ONE", -1000000, x.run(1, 12));
    due("19: what 16", -1000000, x.run(1, 16));
    due("19: what -2147483648", -1000000, x.run(1, Integer.MIN_VALUE));
    due("17: go(0)", OneAnger.BAD, x.go(0));
    due("17: go(100)", OneAnger.BAD, x.go(100));
    due("18: now(-1)", OneAnger.BAD, x.now(-1));
    due("18: now(6)", OneAnger.BAD, x.now(6));
    due("17: none went", 1, x.now(0));
  }

  private static void whoInTheLast() {
    // 0 wrongs 1 while 1 is taken by the sea's stand-in, 2: three WEEKS, then never.
    OneAnger x = Check.told("one calm 0 0 0 0 1;one quick 5 1 2 20 4;one calm 0 0 0 0 1;last 3;");
    x.point(1, 2);
    due("19: who wronged", 5, x.run(1, 2));
    due("19: in the third", 5, x.run(3, 2));
    due("19: nobody in the fourth", 0, x.run(4, 2));
    due("19: wrongs in four", 6, x.run(4, 1));
    due("20: the fourth", 3, x.peace());
    due("20: nothing is changed", 0, x.now(0));
    x.go(3);
    due("20: the next one", 0, x.peace());
    due("18: SAFE", 1, x.now(4));
    due("20: never", OneAnger.NONE, Check.told(LASTING).peace());
    due("20: one alone", 0, Check.told("one calm 9 9 9 9 1;").peace());
  }

  private static void whenItComesBack() {
    OneAnger x = Check.told(LASTING);
    due("21: again(0)", 4, x.again(0));
    due("21: again(1)", 4, x.again(1));
    x.go(2);
    due("21: as old", 4, x.again(0));
    x = Check.told("one calm 0 0 1 20 4;one calm 0 0 0 0 1;");
    x.point(0, 1);
    due("21: never as now", OneAnger.NONE, x.again(0));
    due("21: 4 is none, 5 is none", 5, x.again(1));
    x.go(1);
    due("21: one less", 4, x.again(1));
    x.point(0, 6);
    x.go(4);
    x.point(0, 6);
    due("21: the sea stays", 1, x.again(0));
    due("21: what -1", OneAnger.BAD, x.again(-1));
    due("21: what 2", OneAnger.BAD, x.again(2));
    due("21: nothing is changed", 5, x.now(0));
    due("21: made up at once", 1, Check.told(MAKING_UP).again(0));
  }

  private static void twoAndWere() {
    OneAnger x = Check.told(LASTING);
    due("22: n 0", OneAnger.BAD, x.two(0));
    due("22: n 100", OneAnger.BAD, x.two(100));
    due("22: the same", 100000, x.two(8));
    // 2, taken by the sea, is free by a law of two: none of the three WEEKS' two wrongs of HARM 3.
    x = Check.told("one calm 0 0 0 0 1;one calm 0 0 0 0 1;one quick 5 3 2 20 4 sea;");
    due("22: less harm", 100000 - 18, x.two(3));
    due("22: in one WEEK", 100000 - 6, x.two(1));
    due("22: nothing is changed", 1, x.rule(0));
    due("22: WEEK", 0, x.now(0));
    // 2 is angry with 0 for four WEEKS, in which both wrong him; by a law of two 1 would not.
    x = Check.told("one calm 0 0 0 0 1;one calm 0 0 0 0 1;one quick 5 3 2 20 4 angry 0;");
    due("22: both from the same WEEK on", 100000 - 12, x.two(4));
    x = Check.told("law 2;");
    due("22: LAW is 2", OneAnger.STATE, x.two(1));
    due("22: BAD ahead of STATE", OneAnger.BAD, x.two(0));
    x = Check.told(LASTING);
    due("23: as he is", 100000, x.were(0, 0, 20));
    // Calm: wronged as before, without an anger; quick: 1 had HURT 1 of it each WEEK.
    due("23: 0 calm", 100000, x.were(0, 4, 8));
    // 1 calm: 0 wrongs him (SPADE 3) each WEEK, HARM 2.
    due("23: 1 calm", 100000 - 16, x.were(1, 4, 8));
    due("23: in one WEEK", 100000 - 2, x.were(1, 4, 1));
    due("23: nothing is changed", 0, x.one(1, 0));
    due("23: p 2", OneAnger.BAD, x.were(2, 0, 1));
    due("23: p -1", OneAnger.BAD, x.were(-1, 0, 1));
    due("23: sort 5", OneAnger.BAD, x.were(0, 5, 1));
    due("23: sort -1", OneAnger.BAD, x.were(0, -1, 1));
    due("23: n 0", OneAnger.BAD, x.were(0, 0, 0));
    due("23: n 100", OneAnger.BAD, x.were(0, 0, 100));
    // What feigning is worth: quick he is not wronged, feigning he is, and gets PRICE for it.
    x = Check.told("one quick 5 1 9 4 1;one calm 0 0 0 0 1;");
    due("23: feigning", 100000 + 3 * 7, x.were(0, 3, 7));
  }

  public static void main(String[] args) {
    lasting();
    makingUp();
    oneByOne();
    asItWouldBe();
    whoInTheLast();
    whenItComesBack();
    twoAndWere();
    CHECK.end();
  }
}
