/** Bounds of promises 13 to 16: who WOULD be angry, WORTH, whom, a wrong. */
public final class WrongsBoundsTest {
  private static final Bounds B = new Bounds("WrongsBoundsTest");
  private static final int BAD = OneAnger.BAD, NONE = OneAnger.NONE;
  private static final int FAR_BAD = -1000000;
  private static final String CALM = "one calm 0 0 0 0 1;";

  private static void himself(String form, long want, Bounds.Call f) {
    for (Place at : Place.ALL) {
      for (int p = 0; p < at.people; p++) {
        int who = p;
        B.leaves(String.format(form, p, p), want, at, x -> f.of(x, who));
      }
    }
  }

  // ---- 13

  private static void promise13Numbers() {
    B.of(13);
    B.noSuchOne("would(%d, 0)", BAD, (x, p) -> x.would(p, 0));
    B.noSuchOne("would(0, %d)", BAD, (x, q) -> x.would(0, q));
    B.everywhere("would(0, 6)", BAD, x -> x.would(0, 6));
    himself("would(%d, %d)", BAD, (x, p) -> x.would(p, p));
    for (int p = 0; p < 6; p++) {
      for (int q = 0; q < 6; q++) {
        int who = p;
        int whom = q;
        if (p != q) {
          B.leaves("LAW is full: would(" + p + ", " + q + ")", 0, Place.FULL, x -> x.would(who, whom));
          B.leaves("LAW is full: would(" + p + ", " + q + ")", 0, Place.TWOS, x -> x.would(who, whom));
        }
      }
    }
  }

  private static void promise13KeepOrMore() {
    B.of(13);
    for (int keep : new int[] {0, 1, 10, 19, 20}) {
      for (int harm = keep - 1; harm <= keep + 1; harm++) {
        if (harm >= 0 && harm <= 20) {
          OneAnger x = Check.told(CALM + "one keeper 0 " + harm + " 0 0 1 keep " + keep + ";");
          B.due("HARM " + harm + ", KEEP " + keep, harm < keep ? 0 : 2, x.would(0, 1));
        }
      }
    }
  }

  private static void promise13FewerThanLaw() {
    B.of(13);
    for (int law = 1; law <= 2; law++) {
      OneAnger x = Check.told("law " + law + ";" + CALM.repeat(4) + "one quick 0 0 0 0 1;");
      B.due("no ANGERS, LAW " + law, 16, x.would(0, 4));
      x.point(4, 1);
      B.due("one, LAW " + law, law == 2 ? 16 : 0, x.would(0, 4));
      B.due("one, with him", 0, x.would(1, 4));
      x.point(4, 6);
      B.due("two, LAW " + law, 0, x.would(0, 4));
      x.rest(4, 1);
      x.point(4, 6);
      B.due("THE SEA alone, LAW " + law, law == 2 ? 16 : 0, x.would(0, 4));
    }
  }

  private static void promise13FromNobodyToFive() {
    B.of(13);
    B.due("nobody", 0, Check.told(CALM.repeat(2)).would(1, 0));
    OneAnger x = Check.told("one guard 0 0 0 0 1 kin 5;".repeat(5) + "one quick 0 0 0 0 1;");
    for (int p = 0; p < 5; p++) {
      B.due("all but " + p, 63 & ~(1 << p), x.would(p, 5));
      B.due("a guard himself", 1 << p, x.would(5, p));
    }
    String[] sorts = {"quick", "keeper", "guard", "feign", "calm"};
    for (int s = 0; s < 5; s++) {
      x = Check.told(CALM.repeat(4) + "one " + sorts[s] + " 0 0 0 0 1 kin 5;one calm 0 0 0 0 1;");
      B.due(sorts[s] + " himself", s == 4 ? 0 : 16, x.would(5, 4));
      B.due(sorts[s] + " for his KIN", s == 2 ? 16 : 0, x.would(0, 5));
      B.due(sorts[s] + " who wrongs his KIN", 0, x.would(4, 5));
      B.due(sorts[s] + " for another one", 0, x.would(1, 0));
    }
  }

  // ---- 14

  private static void promise14Numbers() {
    B.of(14);
    for (int what = 0; what <= 1; what++) {
      int w = what;
      B.noSuchOne("worth(%d, 0, " + what + ")", FAR_BAD, (x, p) -> x.worth(p, 0, w));
      B.noSuchOne("worth(0, %d, " + what + ")", FAR_BAD, (x, q) -> x.worth(0, q, w));
      B.everywhere("worth(0, 6, " + what + ")", FAR_BAD, x -> x.worth(0, 6, w));
      himself("worth(%d, %d, " + what + ")", FAR_BAD, (x, p) -> x.worth(p, p, w));
    }
    B.outside("worth(0, 1, %d)", 0, 1, FAR_BAD, (x, what) -> x.worth(0, 1, what));
    int[] spades = {20, 19, 18, 17, 16, 15};
    for (int q = 1; q < 6; q++) {
      int whom = q;
      B.leaves("LAW is full: worth(0, " + q + ", 0)", spades[q], Place.FULL, x -> x.worth(0, whom, 0));
      B.leaves("LAW is full: worth(0, " + q + ", 1)", spades[q], Place.FULL, x -> x.worth(0, whom, 1));
    }
  }

  private static void promise14LeastAndGreatest() {
    B.of(14);
    OneAnger x = Check.told("last 9;one quick 0 0 20 20 4;" + "one guard 20 0 20 20 4 kin 0;".repeat(5));
    B.due("the least", -500, x.worth(5, 0, 0));
    B.due("the least as it is", -500, x.worth(5, 0, 1));
    B.due("SPADE 20", -80, x.worth(0, 5, 1));
    x.set(0, 0, 3);
    B.due("of a FEIGN it is thought that he is not FREE", -400, x.worth(5, 0, 0));
    B.due("as it is", -500, x.worth(5, 0, 1));
    x = Check.told("one calm 20 0 20 0 1;one calm 0 0 20 0 1;");
    B.due("the greatest", 20, x.worth(1, 0, 0));
    B.due("nothing", 0, x.worth(0, 1, 1));
    x = Check.told("one quick 7 0 2 20 4;one calm 0 0 0 0 1;");
    B.due("-1 is no BAD", -1, x.worth(1, 0, 0));
    B.due("-1 is no BAD as it is", -1, x.worth(1, 0, 1));
  }

  // ---- 15

  private static void promise15Numbers() {
    B.of(15);
    B.noSuchOne("whom(%d)", BAD, OneAnger::whom);
    B.everywhere("whom(6)", BAD, x -> x.whom(6));
    B.leaves("whom(0)", NONE, Place.ALONE, x -> x.whom(0));
    B.leaves("whom(0)", 1, Place.FULL, x -> x.whom(0));
    B.leaves("whom(5)", 0, Place.FULL, x -> x.whom(5));
  }

  private static void promise15AboveNought() {
    B.of(15);
    for (int spade = 3; spade <= 5; spade++) {
      OneAnger x = Check.told(CALM + "one quick " + spade + " 0 1 20 4;");
      B.due("WORTH " + (spade - 4), spade - 4, x.worth(0, 1, 0));
      B.due("whom then", spade > 4 ? 1 : NONE, x.whom(0));
    }
    OneAnger x = Check.told("one calm 3 0 0 0 1;".repeat(6));
    for (int p = 0; p < 6; p++) {
      B.due("of several the least", p == 0 ? 1 : 0, x.whom(p));
    }
    x.set(5, 1, 4);
    for (int p = 0; p < 6; p++) {
      B.due("one more is greater", p == 5 ? 0 : 5, x.whom(p));
    }
  }

  // ---- 16

  private static void promise16Numbers() {
    B.of(16);
    B.noSuchOne("wrong(%d, 0)", FAR_BAD, (x, p) -> x.wrong(p, 0));
    B.noSuchOne("wrong(0, %d)", FAR_BAD, (x, q) -> x.wrong(0, q));
    B.everywhere("wrong(0, 6)", FAR_BAD, x -> x.wrong(0, 6));
    himself("wrong(%d, %d)", FAR_BAD, (x, p) -> x.wrong(p, p));
  }

  private static void promise16FullLaw() {
    B.of(16);
    OneAnger x = Place.FULL.make();
    int[] before = new int[6];
    for (int p = 0; p < 6; p++) {
      before[p] = x.one(p, 8);
    }
    int got = x.got(5);
    int lost = x.got(0);
    B.due("WORTH", 20, x.wrong(5, 0));
    B.due("SPADE", got + 20, x.got(5));
    B.due("HARM", lost - 19, x.got(0));
    for (int p = 0; p < 6; p++) {
      B.due("nobody is FREE to be angry", before[p], x.one(p, 8));
    }
  }

  private static void promise16AllAtOnce() {
    B.of(16);
    OneAnger x = Check.told("one guard 0 20 0 0 1 kin 5;".repeat(5) + "one quick 20 20 1 20 4;");
    B.due("WORTH", 16, x.wrong(0, 5));
    for (int r = 1; r < 6; r++) {
      B.due("angry with 0", 1, x.one(r, 8));
      B.due("0 old", 0, x.old(r, 0));
    }
    B.due("he himself is not", 0, x.one(0, 8));
    B.due("a second one is for nothing", 20, x.wrong(1, 5));
    B.due("nobody can be angry but 0", 1, x.one(5, 8));
    B.due("0 is, for his KIN", 2, x.one(0, 8));
    B.due("GOT of the wronged one", -40, x.got(5));
    x = Check.told("one quick 7 0 2 20 4;one calm 0 0 0 0 1;");
    B.due("-1 is no BAD", -1, x.wrong(1, 0));
    B.due("it is done", 2, x.one(0, 8));
    B.due("not by go()", 0, x.now(1));
    B.due("no wrong by go()", 0, x.now(2));
    B.due("no WEEK", 0, x.now(0));
  }

  public static void main(String[] args) {
    promise13Numbers();
    promise13KeepOrMore();
    promise13FewerThanLaw();
    promise13FromNobodyToFive();
    promise14Numbers();
    promise14LeastAndGreatest();
    promise15Numbers();
    promise15AboveNought();
    promise16Numbers();
    promise16FullLaw();
    promise16AllAtOnce();
    B.end(13, 16);
  }
}
