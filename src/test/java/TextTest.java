/** Promises 1 to 12: a new object, THE TAPE, the village that it tells, ANGERS one by one. */
public final class TextTest {
  private static final Check CHECK = new Check("TextTest");

  private static void due(String call, long want, long got) {
    CHECK.due(call, want, got);
  }

  private static void faulty(String text, int fault, int place) {
    OneAnger x = Check.told("one calm 7 0 0 0 1;last 8;");
    x.keep(0);
    due("village() of '" + text + "'", -10 - place, Check.tell(x, text));
    due("fault() of '" + text + "'", fault, x.fault());
    due("people stay behind '" + text + "'", 1, x.count(0));
    due("SPADE stays behind '" + text + "'", 7, x.one(0, 1));
    due("LAST stays behind '" + text + "'", 8, x.rule(1));
    due("images stay behind '" + text + "'", 1, x.count(2));
    due("the tape is empty behind '" + text + "'", 0, x.count(3));
  }

  private static OneAnger fine(String text, int lines) {
    OneAnger x = new OneAnger();
    due("village() of '" + text + "'", lines, Check.tell(x, text));
    due("fault() of '" + text + "'", 0, x.fault());
    return x;
  }

  private static void newObject() {
    OneAnger x = new OneAnger();
    due("1: count(0)", 0, x.count(0));
    due("1: rule(0)", 1, x.rule(0));
    due("1: rule(1)", 4, x.rule(1));
    due("1: rule(2)", 10, x.rule(2));
    due("1: fault()", 0, x.fault());
    due("1: torn()", 0, x.torn());
    for (int k = 0; k < 4; k++) {
      due("1: sheet " + k + " has nothing", -11, x.lay(k, 0, 0));
    }
    due("1: back(0)", OneAnger.STATE, x.back(0));
    due("1: back(1)", OneAnger.STATE, x.back(1));
    due("1: got(0)", -1000000, x.got(0));
    due("1: whom(0)", OneAnger.BAD, x.whom(0));
  }

  private static void tape() {
    OneAnger x = new OneAnger();
    for (int i = 1; i <= 40; i++) {
      due("2: feed " + i, 8 * i, x.feed(0x2020202020202020L));
    }
    due("2: the 41st", OneAnger.FULL, x.feed(0L));
    due("2: count(3)", 320, x.count(3));
    due("3: end(321)", OneAnger.BAD, x.end(321));
    due("3: end(-1)", OneAnger.BAD, x.end(-1));
    due("3: end(320)", 320, x.end(320));
    due("3: end(313)", 320, x.end(313));
    due("2: eight more than 312", OneAnger.FULL, x.feed(0L));
    due("3: end(312)", 313, x.end(312));
    due("2: eight on 312", 320, x.feed(0x2020202020202020L));
    due("4: blanks alone tell nobody", 0, x.village());
    due("3: end(0) of none", 0, x.end(0));
    due("3: end(1) of none", OneAnger.BAD, x.end(1));
    // "law 2;  " with its highest byte first
    due("2: law 2;", 8, x.feed(0x6c617720323b2020L));
    due("4: law 2;", 1, x.village());
    due("6: rule(0)", 2, x.rule(0));
    x.feed(0x6c617720313bffffL);
    due("4: a byte above 127 is no token", -16, x.village());
    due("5: fault", 1, x.fault());
    due("4: an empty tape", 0, x.village());
    due("5: fault()", 0, x.fault());
    due("6: rule(0) as at first", 1, x.rule(0));
  }

  private static void lines() {
    OneAnger x = fine("  one keeper 1 2 3 4 4 keep 20 kin 1 angry 1;one feign 20 20 20 20 1 sea ; see 0;last 9 ;law 1;  ", 5);
    due("6: LAST", 9, x.rule(1));
    due("6: SEE", 0, x.rule(2));
    int[] want = {1, 1, 2, 3, 4, 4, 20, 1, 2, 0, 16};
    for (int what = 0; what <= 10; what++) {
      due("7: one(0, " + what + ")", want[what], x.one(0, what));
    }
    int[] other = {3, 20, 20, 20, 20, 1, 0, OneAnger.NONE, 64, 0, 40};
    for (int what = 0; what <= 10; what++) {
      due("7: one(1, " + what + ")", other[what], x.one(1, what));
    }
    x = fine("one quick007 010 0 0 1kin 1angry 1;one guard0 0 0 0 3;", 2);
    due("7: no blank is needed, noughts ahead", 7, x.one(0, 1));
    due("7: KIN of any sort", 1, x.one(0, 7));
    due("7: GUARD", 2, x.one(1, 0));
    due("7: DAYS", 3, x.one(1, 5));
    x = fine("one calm 0 0 0 0 1 sea angry 1;one calm 0 0 0 0 1;law 2;", 3);
    due("7: ANGERS", 66, x.one(0, 8));
    due("9: old of a told one", 0, x.old(0, 1));
    due("now(5)", 2, x.now(5));
    fine("see 10;", 1);
    fine("last 1;", 1);
    fine("", 0);
  }

  private static void placesOfFaults() {
    faulty("?", 1, 0);
    faulty("one quick 1 1 1 1 1;\n", 1, 20);
    faulty("law 1000;", 1, 4);
    faulty("0001", 1, 0);
    faulty("law 0x", 3, 4);
    faulty("law 3?", 3, 4);
    faulty("law x?", 2, 4);
    faulty("law 1?", 1, 5);
    faulty("Law 1;", 1, 0);
    faulty("laW 1;", 2, 0);
    faulty("zaz", 2, 0);
    faulty("law z", 2, 4);
    faulty("law{", 1, 3);
    faulty("law`", 1, 3);
    faulty("law/", 1, 3);
    faulty("law:", 1, 3);
    faulty("law", 2, 3);
    faulty("law  ", 2, 5);
    faulty("law 1", 2, 5);
    faulty("law 1  ", 2, 7);
    faulty("law 1 2;", 2, 6);
    faulty(";", 2, 0);
    faulty("law 1;;", 2, 6);
    faulty("7", 2, 0);
    faulty("ones quick", 2, 0);
    faulty("on quick", 2, 0);
    faulty("quick 1 1 1 1 1;", 2, 0);
    faulty("one;", 2, 3);
    faulty("one 5", 2, 4);
    faulty("one keepers 1", 2, 4);
    faulty("one quick 1 1 1 1;", 2, 17);
    faulty("one quick 1 1 1 1 1 1;", 2, 20);
    faulty("one quick 1 1 1 1 1 law 1;", 2, 20);
    faulty("one quick 1 1 1 1 1 sea 1;", 2, 24);
    faulty("one quick 1 1 1 1 1 keep;", 2, 24);
    faulty("one quick 1 1 1 1 1 kin sea;", 2, 24);
    faulty("one quick 1 1 1 1 1 angry", 2, 25);
  }

  private static void boundsOfFaults() {
    faulty("one quick 21 1 1 1 1;", 3, 10);
    faulty("one quick 1 21 1 1 1;", 3, 12);
    faulty("one quick 1 1 21 1 1;", 3, 14);
    faulty("one quick 1 1 1 21 1;", 3, 16);
    faulty("one quick 1 1 1 1 0;", 3, 18);
    faulty("one quick 1 1 1 1 5;", 3, 18);
    faulty("one quick 1 1 1 1 1 keep 21;", 3, 25);
    faulty("one quick 1 1 1 1 1 kin 6;", 3, 24);
    faulty("one quick 1 1 1 1 1 angry 6;", 3, 26);
    faulty("law 0;", 3, 4);
    faulty("law 3;", 3, 4);
    faulty("last 0;", 3, 5);
    faulty("last 10;", 3, 5);
    faulty("see 11;", 3, 4);
    faulty("law 1;law 1;", 4, 6);
    faulty("last 1;see 1;last", 4, 13);
    faulty("see 1; see", 4, 7);
    faulty("one quick 1 1 1 1 1 sea sea;", 4, 24);
    faulty("one quick 1 1 1 1 1 keep 1 keep", 4, 27);
    faulty("one quick 1 1 1 1 1 sea keep 1 sea;", 4, 31);
    faulty("one quick 1 1 1 1 1 kin 1 angry 2 sea keep 0 kin", 4, 45);
    faulty("one quick 1 1 1 1 1 kin 1 kin 1;", 4, 26);
    faulty("one quick 1 1 1 1 1 angry 1 angry 2;", 4, 28);
    String one = "one calm 1 1 1 1 1;";
    faulty(one + one + one + one + one + one + "  one", 5, 116);
    due("4: six are taken", 6, fine(one + one + one + one + one + one, 6).count(0));
    OneAnger x = fine(one + one + one + one + one + "one calm 1 1 1 1 1 kin 0 angry 4;", 6);
    due("7: KIN of the sixth", 0, x.one(5, 7));
    due("7: ANGERS of the sixth", 16, x.one(5, 8));
    x = fine("one calm 1 1 1 1 1 kin 5 angry 5;" + one + one + one + one + one, 6);
    due("7: the sixth as KIN", 5, x.one(0, 7));
    due("7: ANGERS with the sixth", 32, x.one(0, 8));
    due("4: a with of another ONE is no second one", 2, fine("one calm 1 1 1 1 1 sea;one calm 1 1 1 1 1 sea;", 2).now(5));
  }

  private static void faultsBehindAll() {
    faulty("one calm 1 1 1 1 1 kin 0;", 6, 25);
    faulty("one calm 1 1 1 1 1 kin 1;  ", 6, 27);
    faulty("one calm 1 1 1 1 1 angry 0;", 6, 27);
    faulty("one calm 1 1 1 1 1 angry 2;one calm 1 1 1 1 1;", 6, 46);
    faulty("one calm 1 1 1 1 1 angry 1 sea;one calm 1 1 1 1 1;", 7, 50);
    faulty("one calm 1 1 1 1 1 angry 1 sea;one calm 1 1 1 1 1 kin 1;", 6, 56);
    faulty("one calm 1 1 1 1 1 kin 1;law", 2, 28);
    fine("one calm 1 1 1 1 1 angry 1 kin 1;one calm 1 1 1 1 1;", 2);
    fine("law 2;one calm 1 1 1 1 1 angry 1 sea;one calm 1 1 1 1 1;", 3);
  }

  private static void newInPlaceOfOld() {
    OneAnger x = Check.told("one quick 5 1 1 20 4 sea;one calm 3 2 2 20 4;law 2;last 7;see 3;");
    x.go(3);
    x.keep(0);
    x.keep(1);
    x.sheet(0, 1, 5);
    due("4: taken", 1, Check.tell(x, "one guard 0 0 0 0 2;"));
    due("4: PEOPLE", 1, x.count(0));
    due("4: LAW as at first", 1, x.rule(0));
    due("4: LAST as at first", 4, x.rule(1));
    due("4: SEE as at first", 10, x.rule(2));
    due("4: ANGERS are gone", 0, x.one(0, 8));
    due("4: WEEK 0", 0, x.now(0));
    due("4: HARM DONE 0", 0, x.now(1));
    due("4: wrongs 0", 0, x.now(2));
    due("4: nobody GOT anything", 0, x.got(0));
    due("4: IMAGES are gone", 0, x.count(2));
    due("4: back(0)", OneAnger.STATE, x.back(0));
    due("4: back(1)", OneAnger.STATE, x.back(1));
    due("4: SHEETS stay", 5, x.count(4));
    due("5: fault of a faulty one", -10, Check.tell(x, "x"));
    due("5: fault()", 2, x.fault());
    due("5: fault() again", 2, x.fault());
  }

  private static void wrongNumbers() {
    OneAnger x = Check.told("one quick 5 1 1 20 4;one keeper 3 2 2 20 4;");
    due("6: rule(-1)", OneAnger.BAD, x.rule(-1));
    due("6: rule(3)", OneAnger.BAD, x.rule(3));
    int[] noOnes = {-1, 2, 6, Integer.MIN_VALUE, Integer.MAX_VALUE};
    for (int p : noOnes) {
      due("7: one(" + p + ", 0)", OneAnger.BAD, x.one(p, 0));
      due("8: set(" + p + ", 1, 1)", OneAnger.BAD, x.set(p, 1, 1));
      due("9: old(" + p + ", 0)", OneAnger.BAD, x.old(p, 0));
      due("9: old(0, " + p + ")", OneAnger.BAD, x.old(0, p));
      due("10: got(" + p + ")", -1000000, x.got(p));
      due("11: point(" + p + ", 0)", OneAnger.BAD, x.point(p, 0));
      due("12: rest(" + p + ", 0)", OneAnger.BAD, x.rest(p, 0));
    }
    due("7: one(0, -1)", OneAnger.BAD, x.one(0, -1));
    due("7: one(0, 11)", OneAnger.BAD, x.one(0, 11));
    due("11: point(6, 6)", OneAnger.BAD, x.point(6, 6));
    due("11: point(0, 2)", OneAnger.BAD, x.point(0, 2));
    due("11: point(0, 7)", OneAnger.BAD, x.point(0, 7));
    due("11: point(0, 0)", OneAnger.BAD, x.point(0, 0));
    due("12: rest(0, 0)", OneAnger.BAD, x.rest(0, 0));
    due("12: rest(0, 2)", OneAnger.BAD, x.rest(0, 2));
    due("9: old(0, 0)", OneAnger.BAD, x.old(0, 0));
  }

  private static void settings() {
    OneAnger x = Check.told("one quick 5 1 3 2 2;");
    int[] was = {0, 5, 1, 3, 2, 2, 0};
    int[] most = {4, 20, 20, 20, 20, 4, 20};
    int[] least = {0, 0, 0, 0, 0, 1, 0};
    for (int what = 0; what <= 6; what++) {
      due("8: too much of " + what, OneAnger.BAD, x.set(0, what, most[what] + 1));
      due("8: too little of " + what, OneAnger.BAD, x.set(0, what, least[what] - 1));
      due("8: most of " + what, was[what], x.set(0, what, most[what]));
      due("7: it is so", most[what], x.one(0, what));
      due("8: least of " + what, most[what], x.set(0, what, least[what]));
      due("7: it is so then", least[what], x.one(0, what));
    }
    due("8: KIN is not set", OneAnger.BAD, x.set(0, 7, 0));
    due("8: what -1", OneAnger.BAD, x.set(0, -1, 0));
    x.set(0, 3, 5);
    x.set(0, 4, 10);
    x.set(0, 5, 2);
    due("7: COST, LAST and making up alike", 20, x.one(0, 10));
    x.set(0, 4, 9);
    due("7: COST by making up", 19, x.one(0, 10));
    x.set(0, 4, 11);
    due("7: COST by LAST", 20, x.one(0, 10));
  }

  private static void angers() {
    OneAnger x = Check.told("one calm 0 0 1 20 4;one calm 0 0 1 20 4;one calm 0 0 0 20 4;law 2;last 3;");
    due("12: rest of none", OneAnger.NONE, x.rest(0, 1));
    due("12: rest of no sea", OneAnger.NONE, x.rest(0, 6));
    due("9: none", OneAnger.NONE, x.old(0, 1));
    due("11: point(0, 1)", 1, x.point(0, 1));
    due("9: 0 old", 0, x.old(0, 1));
    due("11: he is", OneAnger.STATE, x.point(0, 1));
    due("7: FREE", 1, x.one(0, 9));
    due("11: THE SEA", 2, x.point(0, 6));
    due("7: ANGERS", 66, x.one(0, 8));
    due("7: not FREE", 0, x.one(0, 9));
    due("11: STATE ahead of FULL", OneAnger.STATE, x.point(0, 6));
    due("11: FULL", OneAnger.FULL, x.point(0, 2));
    x.go(1);
    due("9: 1 old", 1, x.old(0, 1));
    due("10: HURT", -1, x.got(1));
    due("12: rest(0, 1)", 1, x.rest(0, 1));
    due("9: none then", OneAnger.NONE, x.old(0, 1));
    due("11: anew", 2, x.point(0, 1));
    due("9: 0 old anew", 0, x.old(0, 1));
    x.go(2);
    due("9: 2 old", 2, x.old(0, 1));
    x.go(1);
    due("9: it has ended, LAST old", OneAnger.NONE, x.old(0, 1));
    due("7: THE SEA never ends", 64, x.one(0, 8));
    due("12: THE SEA rests", 0, x.rest(0, 6));
    due("10: got(1)", -4, x.got(1));
  }

  public static void main(String[] args) {
    newObject();
    tape();
    lines();
    placesOfFaults();
    boundsOfFaults();
    faultsBehindAll();
    newInPlaceOfOld();
    wrongNumbers();
    settings();
    angers();
    CHECK.end();
  }
}
