/** Bounds of promises 1 to 12: a new object, THE TAPE, the village that it tells, ANGERS one by one. */
public final class TextBoundsTest {
  private static final Bounds B = new Bounds("TextBoundsTest");
  private static final int BAD = OneAnger.BAD, STATE = OneAnger.STATE, FULL = OneAnger.FULL, NONE = OneAnger.NONE;
  private static final int FAR_BAD = -1000000;
  private static final long BLANKS = 0x2020202020202020L;
  private static final String ONE = "one calm 1 1 1 1 1;";

  private static OneAnger taped(int bytes) {
    OneAnger x = new OneAnger();
    Check.feedAll(x, " ".repeat(bytes));
    return x;
  }

  // ---- 1

  private static void promise1TextOfANewObject() {
    B.of(1);
    B.due("feed(0)", 8, new OneAnger().feed(0L));
    B.due("end(0)", 0, new OneAnger().end(0));
    B.due("village()", 0, new OneAnger().village());
    B.due("fault()", 0, new OneAnger().fault());
    B.due("LAW", 1, new OneAnger().rule(0));
    B.due("LAST", 4, new OneAnger().rule(1));
    B.due("SEE", 10, new OneAnger().rule(2));
    B.due("nobody", 0, new OneAnger().count(0));
    for (int p = -1; p <= 6; p++) {
      B.due("one(" + p + ", 0)", BAD, new OneAnger().one(p, 0));
      B.due("set(" + p + ", 1, 1)", BAD, new OneAnger().set(p, 1, 1));
      B.due("old(" + p + ", 1)", BAD, new OneAnger().old(p, 1));
      B.due("got(" + p + ")", FAR_BAD, new OneAnger().got(p));
      B.due("point(" + p + ", 6)", BAD, new OneAnger().point(p, 6));
      B.due("rest(" + p + ", 6)", BAD, new OneAnger().rest(p, 6));
      B.due("would(" + p + ", 1)", BAD, new OneAnger().would(p, 1));
      B.due("worth(" + p + ", 1, 0)", FAR_BAD, new OneAnger().worth(p, 1, 0));
      B.due("whom(" + p + ")", BAD, new OneAnger().whom(p));
      B.due("wrong(" + p + ", 1)", FAR_BAD, new OneAnger().wrong(p, 1));
      B.due("were(" + p + ", 0, 1)", BAD, new OneAnger().were(p, 0, 1));
      B.due("price(" + p + ")", BAD, new OneAnger().price(p));
      B.due("odds(" + p + ", 1, 0)", BAD, new OneAnger().odds(p, 1, 0));
      B.due("mean(" + p + ", 0)", FAR_BAD, new OneAnger().mean(p, 0));
      B.due("likeliest(" + p + ")", BAD, new OneAnger().likeliest(p));
    }
  }

  private static void promise1RestOfANewObject() {
    B.of(1);
    B.due("go(1)", 0, new OneAnger().go(1));
    int[] now = {0, 0, 0, 0, 1, 0};
    for (int what = 0; what <= 5; what++) {
      B.due("now(" + what + ")", now[what], new OneAnger().now(what));
    }
    for (int what = 0; what <= 3; what++) {
      B.due("run(99, " + what + ")", 0, new OneAnger().run(99, what));
    }
    B.due("run(1, 10)", FAR_BAD, new OneAnger().run(1, 10));
    B.due("peace()", 0, new OneAnger().peace());
    B.due("again(0)", 1, new OneAnger().again(0));
    B.due("again(1)", 1, new OneAnger().again(1));
    B.due("two(1)", 100000, new OneAnger().two(1));
    B.due("open()", 0, new OneAnger().open());
    B.due("fewest(0)", 0, new OneAnger().fewest(0));
    B.due("fewest(1)", 0, new OneAnger().fewest(1));
    B.due("always()", 0, new OneAnger().always());
    B.due("where(0)", NONE, new OneAnger().where(0));
    B.due("hire(99, 1)", NONE, new OneAnger().hire(99, 1));
    B.due("ring(2)", NONE, new OneAnger().ring(2));
    int[] counts = {0, 0, 0, 0, NONE};
    for (int what = 0; what <= 4; what++) {
      B.due("count(" + what + ")", counts[what], new OneAnger().count(what));
    }
    B.due("torn()", 0, new OneAnger().torn());
    for (int k = 0; k < 2; k++) {
      B.due("back(" + k + ")", STATE, new OneAnger().back(k));
      B.due("keep(" + k + ")", 0, new OneAnger().keep(k));
    }
    for (int k = 0; k < 4; k++) {
      B.due("a SHEET has nothing", -11, new OneAnger().lay(k, 0, 0));
      OneAnger x = new OneAnger();
      B.due("nothing is read", 0, x.read(k, 0, 0, 1));
      B.due("NULL", 1, x.torn());
    }
  }

  // ---- 2

  private static void promise2FromEmptyToFull() {
    B.of(2);
    for (int bytes : new int[] {0, 1, 7, 8, 304, 311, 312}) {
      OneAnger x = taped(bytes);
      B.due("feed on " + bytes, bytes + 8, x.feed(BLANKS));
      B.due("bytes then", bytes + 8, x.count(3));
      B.due("all are blanks", 0, x.village());
    }
    for (int bytes : new int[] {313, 314, 319, 320}) {
      OneAnger x = taped(bytes);
      B.due("feed on " + bytes, FULL, x.feed(0L));
      B.due("bytes then", bytes, x.count(3));
      B.due("all are blanks still", 0, x.village());
    }
    for (long v : new long[] {0L, 1L, -1L, BLANKS, Long.MIN_VALUE, Long.MAX_VALUE}) {
      B.leaves("feed(" + v + ")", FULL, Place.FULL, x -> x.feed(v));
      B.leaves("feed(" + v + ")", FULL, Place.TWOS, x -> x.feed(v));
    }
  }

  private static void promise2HighestFirst() {
    B.of(2);
    for (int ahead : new int[] {0, 8, 1, 312}) {
      for (int i = 0; i < 8; i++) {
        OneAnger x = taped(ahead);
        long odd = BLANKS ^ (long) (' ' ^ 255) << (56 - 8 * i);
        B.due("feed on " + ahead, ahead + 8, x.feed(odd));
        B.due("byte " + i, -10 - ahead - i, x.village());
        B.due("no TOKEN", 1, x.fault());
      }
    }
    long[] ends = {Long.MIN_VALUE, Long.MAX_VALUE, 0L, -1L};
    for (long v : ends) {
      OneAnger x = taped(3);
      B.due("feed(" + v + ")", 11, x.feed(v));
      B.due("its highest byte is no TOKEN", -13, x.village());
      B.due("fault()", 1, x.fault());
    }
  }

  // ---- 3

  private static void promise3Bounds() {
    B.of(3);
    for (Place at : Place.ALL) {
      int bytes = at.make().count(3);
      for (int n : Bounds.around(0, bytes)) {
        B.leaves("end(" + n + ")", BAD, at, x -> x.end(n));
      }
      B.leaves("end(" + bytes + ")", bytes, at, x -> x.end(bytes));
      OneAnger x = at.make();
      B.due("end(0) of " + bytes, bytes, x.end(0));
      B.due("none then", 0, x.count(3));
      B.due("end(0) of none", 0, x.end(0));
      B.due("end(1) of none", BAD, x.end(1));
      B.due("end(-1) of none", BAD, x.end(-1));
      B.due("an empty one tells nobody", 0, x.village());
    }
  }

  private static void promise3TheFirstBytes() {
    B.of(3);
    OneAnger x = taped(320);
    B.due("end(319)", 320, x.end(319));
    B.due("319 then", 319, x.count(3));
    B.due("end(320)", BAD, x.end(320));
    B.due("end(1)", 319, x.end(1));
    B.due("end(0)", 1, x.end(0));
    x = new OneAnger();
    x.feed(0x6c617720323b3f3fL); // "law 2;??"
    B.due("end(6)", 8, x.end(6));
    B.due("feed behind six", 14, x.feed(BLANKS));
    B.due("law 2;", 1, x.village());
    B.due("LAW", 2, x.rule(0));
    B.due("end(1) behind village()", BAD, x.end(1));
  }

  // ---- 4

  /** The text is refused: all but THE TAPE, empty then, stays. */
  private static void faulty(String text, int fault, int place) {
    String row = "'" + text.trim() + "' of " + text.length();
    for (Place at : new Place[] {Place.EMPTY, Place.MIDDLE, Place.FULL}) {
      for (int kind = 0; kind < Looks.KINDS; kind++) {
        OneAnger x = at.make();
        OneAnger other = at.make();
        other.end(0);
        x.end(0);
        B.due(row, -10 - place, Check.tell(x, text));
        B.due(row + ", fault()", fault, x.fault());
        B.same(row + " leaves all (" + at.name + ")", Looks.look(other, kind), Looks.look(x, kind));
      }
    }
  }

  private static OneAnger fine(String text, int lines) {
    OneAnger x = Place.FULL.make();
    x.end(0);
    String row = "'" + text.trim() + "' of " + text.length();
    B.due(row, lines, Check.tell(x, text));
    B.due(row + ", fault()", 0, x.fault());
    B.due(row + ", THE TAPE", 0, x.count(3));
    return x;
  }

  private static String behind(int blanks, String text) {
    return " ".repeat(blanks) + text;
  }

  private static void promise4EmptyAndFull() {
    B.of(4);
    for (int blanks : new int[] {0, 1, 319, 320}) {
      B.due("nobody by " + blanks + " blanks", 0, fine(" ".repeat(blanks), 0).count(0));
    }
    OneAnger x = fine(Place.FULL_TEXT, 9);
    B.due("six of a full THE TAPE", 6, x.count(0));
    B.due("the last one's HURT", 20, x.one(5, 3));
    x = fine(behind(320 - 6, "see 0;"), 1);
    B.due("the last bytes count", 0, x.rule(2));
    faulty(behind(319, "?"), 1, 319);
    faulty(behind(313, "law1000"), 1, 316);
    faulty(behind(319, ";"), 2, 319);
    faulty(behind(317, "law"), 2, 320);
    faulty(behind(312, "law 1   "), 2, 320);
    faulty(behind(315, "law 3"), 3, 319);
    faulty(behind(311, "law 1;law"), 4, 317);
    faulty(behind(320 - 6 * ONE.length() - 3, ONE.repeat(6) + "one"), 5, 317);
    faulty(behind(320 - 25, "one calm 1 1 1 1 1 kin 0;"), 6, 320);
    faulty(behind(320 - 50, "one calm 1 1 1 1 1 angry 1 sea;" + ONE), 7, 320);
    faulty("a".repeat(320), 2, 0);
    faulty("7".repeat(320), 1, 0);
    faulty(";".repeat(320), 2, 0);
    faulty(String.valueOf((char) 255).repeat(320), 1, 0);
  }

  private static void promise4EveryByte() {
    B.of(4);
    for (int b = 0; b < 256; b++) {
      boolean letter = b >= 'a' && b <= 'z';
      boolean figure = b >= '0' && b <= '9';
      OneAnger x = new OneAnger();
      int want = b == ' ' ? 0 : -10;
      B.due("byte " + b + " alone", want, Check.tell(x, String.valueOf((char) b)));
      B.due("its FAULT", b == ' ' ? 0 : letter || figure || b == ';' ? 2 : 1, x.fault());
      int inside = b == ' ' || b == '0' ? 1 : letter ? -10 : -13;
      B.due("byte " + b + " behind law", inside, Check.tell(x, "law" + (char) b + "1;"));
      int fault = inside == 1 ? 0 : letter || b == ';' ? 2 : figure ? 3 : 1;
      B.due("its FAULT there", fault, x.fault());
    }
  }

  /** A NUMBER behind ahead, from least to most, at its bounds and beside them, in all its forms. */
  private static void numberWithin(String ahead, String rest, int least, int most, int lines) {
    int place = ahead.length();
    fine(ahead + least + rest, lines);
    fine(ahead + most + rest, lines);
    fine(String.format("%s%03d%s", ahead, least, rest), lines);
    fine(String.format("%s%03d%s", ahead, most, rest), lines);
    faulty(ahead + (most + 1) + rest, 3, place);
    faulty(String.format("%s%03d%s", ahead, most + 1, rest), 3, place);
    faulty(ahead + "999" + rest, 3, place);
    faulty(ahead + "1000" + rest, 1, place);
    faulty(String.format("%s%04d%s", ahead, least, rest), 1, place);
    faulty(ahead + "99999999999999999999" + rest, 1, place);
    faulty(ahead + ";" + rest, 2, place);
    faulty(ahead, 2, place);
    faulty(ahead + "-1" + rest, 1, place);
    if (least > 0) {
      faulty(ahead + (least - 1) + rest, 3, place);
      faulty(String.format("%s%03d%s", ahead, least - 1, rest), 3, place);
    }
  }

  private static void promise4BoundsOfNumbers() {
    B.of(4);
    String[] sorts = {"quick", "keeper", "guard", "feign", "calm"};
    for (int s = 0; s < 5; s++) {
      B.due("SORT", s, fine("one " + sorts[s] + " 0 0 0 0 1;", 1).one(0, 0));
    }
    String ahead = "one calm ";
    String rest = " 0 0 0 1;";
    for (int what = 1; what <= 4; what++) {
      numberWithin(ahead, rest, 0, 20, 1);
      ahead += "0 ";
      rest = rest.substring(2);
    }
    numberWithin(ahead, ";", 1, 4, 1);
    numberWithin("one calm 0 0 0 0 1 keep ", ";", 0, 20, 1);
    numberWithin("law ", ";", 1, 2, 1);
    numberWithin("last ", ";", 1, 9, 1);
    numberWithin("see ", ";", 0, 10, 1);
    // Himself and nobody are for behind all: 0 and 5 of a ONE in the middle of six are within.
    String three = ONE.repeat(3);
    numberWithin(three + "one calm 0 0 0 0 1 kin ", ";" + ONE + ONE, 0, 5, 6);
    numberWithin(three + "one calm 0 0 0 0 1 angry ", ";" + ONE + ONE, 0, 5, 6);
  }

  private static void promise4BlanksAndLongTokens() {
    B.of(4);
    OneAnger x = fine("one calm1 2 3 4 1keep5kin 1sea;law 1;one calm 1 1 1 1 1;", 3);
    B.due("KEEP, no blanks", 5, x.one(0, 6));
    B.due("KIN, no blanks", 1, x.one(0, 7));
    B.due("THE SEA, no blanks", 64, x.one(0, 8));
    x = fine("   one   calm   1   2   3   4   1   keep   5   sea   ;   ", 1);
    B.due("KEEP, many blanks", 5, x.one(0, 6));
    faulty("onecalm 1 1 1 1 1;", 2, 0);
    faulty("one calmkeep 1 1 1 1 1;", 2, 4);
    faulty("one calm 11111;", 1, 9);
    faulty("one calm 1 1 1 11;", 2, 17);
    faulty("one calm 1 1 1 1 1 seakin 1;", 2, 19);
    faulty("la w 1;", 2, 0);
    faulty("law 1 0;", 2, 6);
    faulty("lawlaw 1;", 2, 0);
  }

  private static void promise4FirstMet() {
    B.of(4);
    // A TOKEN is read when the one before has been taken.
    faulty("law 3?", 3, 4);
    faulty("law 2?", 1, 5);
    faulty("law 1;law?", 4, 6);
    faulty("law 1;law 9", 4, 6);
    faulty("x?", 2, 0);
    faulty("one x?", 2, 4);
    faulty("law ;?", 2, 4);
    faulty("see 11 1000;", 3, 4);
    faulty("one calm 1 1 1 1 5 x", 3, 17);
    faulty("one calm 1 1 1 1 1 kin 1 kin 9;", 4, 25);
    faulty("one calm 1 1 1 1 1 sea sea?", 4, 23);
    faulty(ONE.repeat(6) + "one?", 5, 114);
    faulty(ONE.repeat(6) + "ones", 2, 114);
    faulty("one calm 1 1 1 1 1 kin 0;law 3;", 3, 29);
    faulty("one calm 1 1 1 1 1 kin 0;?", 1, 25);
  }

  private static void promise4SecondTime() {
    B.of(4);
    faulty("law 1;law 1;", 4, 6);
    faulty("last 1;last 1;", 4, 7);
    faulty("see 1;see 1;", 4, 6);
    fine("law 1;last 1;see 1;", 3);
    faulty("see 1;law 1;last 1;see 1;", 4, 19);
    String[] withs = {"keep 0 ", "kin 1 ", "angry 1 ", "sea "};
    for (String with : withs) {
      String ahead = "one calm 1 1 1 1 1 " + with;
      faulty(ahead + with + ";" + ONE, 4, ahead.length());
      fine(ahead + ";" + ONE, 2);
      fine(ONE + ONE + "one calm 1 1 1 1 1 " + with + ";one calm 1 1 1 1 1 " + with + ";", 4);
    }
    for (int first = 0; first < 4; first++) {
      String ahead = "law 2;one calm 1 1 1 1 1 " + withs[first] + withs[(first + 1) % 4] + withs[(first + 2) % 4]
          + withs[(first + 3) % 4];
      fine(ahead + ";" + ONE, 3);
      faulty(ahead + withs[first] + ";" + ONE, 4, ahead.length());
    }
  }

  private static void promise4SixAtMost() {
    B.of(4);
    for (int n = 1; n <= 6; n++) {
      B.due(n + " ONES", n, fine(ONE.repeat(n), n).count(0));
    }
    faulty(ONE.repeat(7), 5, 114);
    faulty(ONE.repeat(6) + "see 1;" + ONE, 5, 120);
    fine(ONE.repeat(6) + "see 1;law 1;last 1;", 9);
  }

  private static void promise4BehindAll() {
    B.of(4);
    for (String with : new String[] {"kin ", "angry "}) {
      for (int n = 1; n <= 6; n++) {
        for (int p = 0; p < n; p += n - 1 > 0 ? n - 1 : 1) {
          String ahead = ONE.repeat(p) + "one calm 1 1 1 1 1 " + with;
          String rest = ";" + ONE.repeat(n - p - 1);
          faulty(ahead + p + rest, 6, ahead.length() + 1 + rest.length());
          if (n < 6) {
            faulty(ahead + n + rest, 6, ahead.length() + 1 + rest.length());
            faulty(ahead + 5 + rest, 6, ahead.length() + 1 + rest.length());
          }
          if (n > 1) {
            fine(ahead + (p == 0 ? n - 1 : 0) + rest, n);
          }
        }
      }
    }
    String both = "one calm 1 1 1 1 1 angry 1 sea;";
    faulty(both + ONE, 7, both.length() + ONE.length());
    faulty("law 1;" + both + ONE, 7, 6 + both.length() + ONE.length());
    fine("law 2;" + both + ONE, 3);
    fine(both + ONE + "law 2;", 3);
    fine("one calm 1 1 1 1 1 sea;", 1);
    // A FAULT 6 of any ONE goes ahead of a 7 of one before him.
    String last = "one calm 1 1 1 1 1 kin 1;";
    faulty(both + last, 6, both.length() + last.length());
    faulty("one calm 1 1 1 1 1 angry 2 sea;" + ONE, 6, both.length() + ONE.length());
  }

  private static void promise4WhatATextLeaves() {
    B.of(4);
    OneAnger x = fine("one guard 3 4 5 6 2;", 1);
    int[] want = {2, 3, 4, 5, 6, 2, 0, NONE, 0, 1, 16};
    for (int what = 0; what <= 10; what++) {
      B.due("one(0, " + what + ")", want[what], x.one(0, what));
    }
    int[] rules = {1, 4, 10};
    for (int what = 0; what <= 2; what++) {
      B.due("rule(" + what + ")", rules[what], x.rule(what));
    }
    int[] now = {0, 0, 0, 1, 1, 0};
    for (int what = 0; what <= 5; what++) {
      B.due("now(" + what + ")", now[what], x.now(what));
    }
    B.due("nobody GOT anything", 0, x.got(0));
    B.due("one(1, 0)", BAD, x.one(1, 0));
    B.due("IMAGES are gone", 0, x.count(2));
    B.due("back(0)", STATE, x.back(0));
    B.due("back(1)", STATE, x.back(1));
    OneAnger six = new OneAnger();
    Check.tell(six, "law 2;" + "one keeper 9 8 7 6 4 keep 20 sea;".repeat(5) + "one guard 9 8 7 6 4 keep 3 kin 0 angry 1;");
    six.go(2);
    B.due("six in place of six", 6, Check.tell(six, "one calm 0 0 0 0 1;".repeat(6)));
    int[] calm = {4, 0, 0, 0, 0, 1, 0, NONE, 0, 1, 0};
    for (int p = 0; p < 6; p++) {
      for (int what = 0; what <= 10; what++) {
        B.due("one(" + p + ", " + what + ") in place of another", calm[what], six.one(p, what));
      }
      B.due("got(" + p + ") in place of another", 0, six.got(p));
    }
    for (Place at : Place.ALL) {
      OneAnger told = at.make();
      int torn = told.torn();
      told.end(0);
      B.due("village()", 0, told.village());
      B.due("torn() stays", torn, told.torn());
      B.same("SHEETS stay (" + at.name + ")", at.look(3), Looks.look(told, 3));
    }
    B.due("nobody by an empty text", 0, fine("", 0).count(0));
  }

  // ---- 5

  private static void promise5EachFault() {
    B.of(5);
    String[] texts = {"", "?", "law", "law 0;", "law 1;law", ONE.repeat(7), "one calm 1 1 1 1 1 kin 0;",
      "one calm 1 1 1 1 1 angry 1 sea;" + ONE};
    OneAnger x = new OneAnger();
    for (int first = 0; first <= 7; first++) {
      for (int then = 0; then <= 7; then += 7) {
        Check.tell(x, texts[first]);
        B.due("fault()", first, x.fault());
        B.due("fault() again", first, x.fault());
        Check.feedAll(x, texts[then]);
        B.due("by village() alone", first, x.fault());
        x.village();
        B.due("of the latest", then, x.fault());
      }
    }
    for (Place at : Place.ALL) {
      B.leaves("fault()", at == Place.MIDDLE ? 3 : 0, at, OneAnger::fault);
    }
  }

  // ---- 6

  private static void promise6Rules() {
    B.of(6);
    B.outside("rule(%d)", 0, 2, BAD, OneAnger::rule);
    int[][] want = {{1, 4, 10}, {1, 4, 10}, {2, 5, 7}, {1, 9, 3}, {2, 3, 0}};
    for (int i = 0; i < 5; i++) {
      for (int what = 0; what <= 2; what++) {
        int w = what;
        B.leaves("rule(" + what + ")", want[i][what], Place.ALL[i], x -> x.rule(w));
      }
    }
    String[] names = {"law ", "last ", "see "};
    int[] least = {1, 1, 0};
    int[] most = {2, 9, 10};
    for (int what = 0; what <= 2; what++) {
      for (int v = least[what]; v <= most[what]; v++) {
        B.due(names[what] + v, v, Check.told(names[what] + v + ";").rule(what));
      }
    }
  }

  // ---- 7

  private static void promise7Numbers() {
    B.of(7);
    for (int what = 0; what <= 10; what++) {
      int w = what;
      B.noSuchOne("one(%d, " + what + ")", BAD, (x, p) -> x.one(p, w));
    }
    B.outside("one(0, %d)", 0, 10, BAD, (x, what) -> x.one(0, what));
    int[][] want = {{0, 20, 19, 18, 17, 4, 0, NONE}, {1, 19, 5, 4, 3, 3, 5, NONE}, {2, 18, 4, 3, 2, 2, 0, 0},
      {3, 17, 3, 2, 1, 1, 0, NONE}, {4, 16, 2, 1, 0, 4, 0, NONE}, {2, 15, 1, 20, 20, 3, 0, 4}};
    for (int p = 0; p < 6; p++) {
      for (int what = 0; what <= 7; what++) {
        int r = p;
        int w = what;
        B.leaves("one(" + p + ", " + what + ")", want[p][what], Place.FULL, x -> x.one(r, w));
      }
    }
    int[] cost = {89, 15, 8, 3, 4, 80};
    for (int p = 0; p < 6; p++) {
      int r = p;
      B.leaves("one(" + p + ", 10)", cost[p], Place.FULL, x -> x.one(r, 10));
    }
  }

  private static void promise7Angers() {
    B.of(7);
    OneAnger x = Check.told(Place.FULL_TEXT);
    int[] bits = {2, 64, 32, 1, 64, 4};
    for (int p = 0; p < 6; p++) {
      B.due("ANGERS of " + p, bits[p], x.one(p, 8));
      B.due("LAW 1, one ANGER: not FREE", 0, x.one(p, 9));
    }
    x = Check.told("law 2;" + ONE.repeat(6));
    for (int r = 0; r < 6; r++) {
      B.due("no ANGERS", 0, x.one(r, 8));
      B.due("LAW 2, none: FREE", 1, x.one(r, 9));
      x.point(r, 6);
      B.due("THE SEA", 64, x.one(r, 8));
      B.due("LAW 2, one: FREE", 1, x.one(r, 9));
      x.point(r, (r + 5) % 6);
      B.due("THE SEA and one", 64 | 1 << (r + 5) % 6, x.one(r, 8));
      B.due("LAW 2, two: not FREE", 0, x.one(r, 9));
    }
  }

  private static int costOf(int last, int hurt, int price, int days) {
    return Check.told("last " + last + ";one calm 0 0 " + hurt + " " + price + " " + days + ";").one(0, 10);
  }

  private static void promise7Cost() {
    B.of(7);
    B.due("no HURT", 0, costOf(9, 0, 20, 4));
    B.due("the greatest", 100, costOf(9, 20, 20, 4));
    B.due("LAST 1", 20, costOf(1, 20, 0, 1));
    B.due("LAST 1, DAYS above it", 20, costOf(1, 20, 0, 4));
    B.due("DAYS are LAST", 80, costOf(4, 20, 0, 4));
    B.due("PRICE 0", 20, costOf(9, 20, 0, 1));
    B.due("making up one less", 11, costOf(4, 3, 2, 3));
    B.due("both alike", 12, costOf(4, 3, 3, 3));
    B.due("making up one more", 12, costOf(4, 3, 4, 3));
  }

  // ---- 8

  private static void promise8Bounds() {
    B.of(8);
    int[] least = {0, 0, 0, 0, 0, 1, 0};
    int[] most = {4, 20, 20, 20, 20, 4, 20};
    B.noSuchOne("set(%d, 1, 1)", BAD, (x, p) -> x.set(p, 1, 1));
    B.outside("set(0, %d, 1)", 0, 6, BAD, (x, what) -> x.set(0, what, 1));
    for (int what = 0; what <= 6; what++) {
      int w = what;
      B.outside("set(0, " + what + ", %d)", least[what], most[what], BAD, (x, v) -> x.set(0, w, v));
    }
    for (Place at : Place.ALL) {
      for (int p = 0; p < at.people; p++) {
        OneAnger x = at.make();
        for (int what = 0; what <= 6; what++) {
          int was = x.one(p, what);
          B.due("least of " + what, was, x.set(p, what, least[what]));
          B.due("it is so", least[what], x.one(p, what));
          B.due("most of " + what, least[what], x.set(p, what, most[what]));
          B.due("it is so then", most[what], x.one(p, what));
          B.due("the same again", most[what], x.set(p, what, most[what]));
          B.due("what it was", most[what], x.set(p, what, was));
        }
        B.same("all as it was (" + at.name + ")", at.look(0), Looks.look(x, 0));
      }
    }
  }

  // ---- 9

  private static void promise9Numbers() {
    B.of(9);
    B.noSuchOne("old(%d, 0)", BAD, (x, r) -> x.old(r, 0));
    B.noSuchOne("old(0, %d)", BAD, (x, p) -> x.old(0, p));
    B.everywhere("old(0, 6), THE SEA is no ONE", BAD, x -> x.old(0, 6));
    for (Place at : Place.ALL) {
      for (int p = 0; p < at.people; p++) {
        int r = p;
        B.leaves("old(" + p + ", " + p + ")", BAD, at, x -> x.old(r, r));
      }
    }
  }

  private static void promise9Ages() {
    B.of(9);
    for (int last = 1; last <= 9; last++) {
      OneAnger x = Check.told("last " + last + ";" + "one calm 0 0 0 0 1;".repeat(6));
      B.due("there is none", NONE, x.old(5, 0));
      x.point(5, 0);
      x.point(0, 5);
      for (int age = 0; age < last; age++) {
        B.due("LAST " + last + ", old", age, x.old(5, 0));
        B.due("and the other one's", age, x.old(0, 5));
        x.go(1);
      }
      B.due("LAST old: ended", NONE, x.old(5, 0));
      x.point(5, 0);
      B.due("0 old anew", 0, x.old(5, 0));
    }
    OneAnger x = Check.told("one calm 0 0 0 0 1 angry 1;one calm 0 0 0 0 1;");
    B.due("told by a text: 0 old", 0, x.old(0, 1));
    B.due("not the other way", NONE, x.old(1, 0));
  }

  // ---- 10

  private static void promise10Numbers() {
    B.of(10);
    B.noSuchOne("got(%d)", FAR_BAD, OneAnger::got);
    B.everywhere("got(6)", FAR_BAD, x -> x.got(6));
    OneAnger x = Check.told("one calm 20 20 0 0 1;".repeat(6));
    for (int p = 0; p < 6; p++) {
      B.due("nothing so far", 0, x.got(p));
    }
    x.go(99);
    x.go(99);
    // All wrong 0, and he wrongs 1.
    B.due("the least", 198 * (20 - 5 * 20), x.got(0));
    B.due("as much as he lost", 0, x.got(1));
    B.due("the greatest", 198 * 20, x.got(5));
    x = Check.told("one calm 0 1 0 0 1;one calm 0 0 0 0 1;");
    x.wrong(1, 0);
    B.due("-1 is no BAD", -1, x.got(0));
  }

  // ---- 11, 12

  /** Numbers of nobody whom one could be angry with: 6 is THE SEA. */
  private static int[] noneToMeet(Place at) {
    return new int[] {-1, at.people == 6 ? 7 : at.people, 7, Integer.MIN_VALUE, Integer.MAX_VALUE};
  }

  private static void promise11Refused() {
    B.of(11);
    B.noSuchOne("point(%d, 0)", BAD, (x, r) -> x.point(r, 0));
    B.noSuchOne("point(%d, 6)", BAD, (x, r) -> x.point(r, 6));
    for (Place at : Place.ALL) {
      for (int p : noneToMeet(at)) {
        B.leaves("point(0, " + p + ")", BAD, at, x -> x.point(0, p));
      }
      for (int r = 0; r < at.people; r++) {
        int who = r;
        B.leaves("point(" + r + ", " + r + ")", BAD, at, x -> x.point(who, who));
      }
    }
    for (Place at : new Place[] {Place.FULL, Place.TWOS}) {
      OneAnger made = at.make();
      for (int r = 0; r < 6; r++) {
        int angers = made.one(r, 8);
        for (int p = 0; p <= 6; p++) {
          int who = r;
          int whom = p;
          if (p != r) {
            int want = (angers >> p & 1) != 0 ? STATE : FULL;
            B.leaves("point(" + r + ", " + p + ")", want, at, x -> x.point(who, whom));
          }
        }
      }
    }
  }

  private static void promise11UpToLaw() {
    B.of(11);
    for (int law = 1; law <= 2; law++) {
      for (int r = 0; r < 6; r++) {
        OneAnger x = Check.told("law " + law + ";" + ONE.repeat(6));
        int[] whom = {6, (r + 1) % 6, (r + 5) % 6};
        for (int i = 0; i < 3; i++) {
          B.due("point(" + r + ", " + whom[i] + "), LAW " + law, i < law ? i + 1 : FULL, x.point(r, whom[i]));
        }
        B.due("STATE ahead of FULL", STATE, x.point(r, 6));
        B.due("BAD ahead of FULL", BAD, x.point(r, r));
        B.due("ANGERS", law, x.now(5));
        B.due("one rests", law - 1, x.rest(r, 6));
        B.due("room for one", law, x.point(r, whom[2]));
        B.due("0 old", 0, x.old(r, whom[2]));
      }
    }
    OneAnger x = Check.told(ONE);
    B.due("one alone can meet THE SEA", 1, x.point(0, 6));
    B.due("and nobody else", BAD, x.point(0, 1));
    x = Check.told("law 2;" + ONE + ONE);
    x.point(0, 1);
    B.due("STATE with room", STATE, x.point(0, 1));
  }

  private static void promise12Rest() {
    B.of(12);
    B.noSuchOne("rest(%d, 0)", BAD, (x, r) -> x.rest(r, 0));
    B.noSuchOne("rest(%d, 6)", BAD, (x, r) -> x.rest(r, 6));
    for (Place at : Place.ALL) {
      OneAnger made = at.make();
      for (int p : noneToMeet(at)) {
        B.leaves("rest(0, " + p + ")", BAD, at, x -> x.rest(0, p));
      }
      for (int r = 0; r < at.people; r++) {
        int who = r;
        B.leaves("rest(" + r + ", " + r + ")", BAD, at, x -> x.rest(who, who));
        for (int p = 0; p <= 6; p++) {
          int whom = p;
          if (p != r && (p == 6 || p < at.people) && (made.one(r, 8) >> p & 1) == 0) {
            B.leaves("rest(" + r + ", " + p + ")", NONE, at, x -> x.rest(who, whom));
          }
        }
      }
    }
    OneAnger x = Place.TWOS.make();
    for (int r = 0; r < 6; r++) {
      int left = x.one(r, 8);
      for (int n = 1; n >= 0; n--) {
        int p = Integer.numberOfTrailingZeros(left);
        B.due("rest(" + r + ", " + p + ")", n, x.rest(r, p));
        B.due("it has ended", NONE, x.rest(r, p));
        left &= ~(1 << p);
        B.due("ANGERS", left, x.one(r, 8));
        B.due("FREE", 1, x.one(r, 9));
      }
    }
    B.due("none is left", 0, x.now(5));
  }

  public static void main(String[] args) {
    promise1TextOfANewObject();
    promise1RestOfANewObject();
    promise2FromEmptyToFull();
    promise2HighestFirst();
    promise3Bounds();
    promise3TheFirstBytes();
    promise4EmptyAndFull();
    promise4EveryByte();
    promise4BoundsOfNumbers();
    promise4BlanksAndLongTokens();
    promise4FirstMet();
    promise4SecondTime();
    promise4SixAtMost();
    promise4BehindAll();
    promise4WhatATextLeaves();
    promise5EachFault();
    promise6Rules();
    promise7Numbers();
    promise7Angers();
    promise7Cost();
    promise8Bounds();
    promise9Numbers();
    promise9Ages();
    promise10Numbers();
    promise11Refused();
    promise11UpToLaw();
    promise12Rest();
    B.end(1, 12);
  }
}
