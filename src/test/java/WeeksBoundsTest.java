/** Bounds of promises 17 to 23: WEEKS that go, and those that would. */
public final class WeeksBoundsTest {
  private static final Bounds B = new Bounds("WeeksBoundsTest");
  private static final int BAD = OneAnger.BAD, STATE = OneAnger.STATE, NONE = OneAnger.NONE;
  private static final int FAR_BAD = -1000000;
  private static final String CALM = "one calm 0 0 0 0 1;";
  // Each wrongs one in each WEEK, and nobody is ever angry.
  private static final String ALL_WRONG = "one calm 20 20 0 0 1;".repeat(6);
  // Wrongs go on for 900 WEEKS, and then end.
  private static final String LATE_PEACE = "law 1;last 9;one guard 18 19 1 5 4 kin 3;one guard 2 4 1 20 3 kin 3;"
      + "one guard 5 7 2 8 4 kin 0 angry 0;one guard 20 11 2 6 4 kin 0;";
  // From its WEEK 94 on all comes back behind 99 WEEKS.
  private static final String EACH_99 = "law 2;last 8;one guard 20 6 3 0 3 kin 2 sea;one quick 11 4 7 17 3;"
      + "one guard 14 16 0 12 4 kin 0;one quick 20 3 1 15 4;";
  // From its WEEK 0 on all comes back behind 100 WEEKS.
  private static final String EACH_100 = "law 2;last 9;one calm 0 5 4 7 4;one guard 9 7 2 3 2;"
      + "one guard 1 6 1 5 4 kin 3;one quick 13 1 2 2 4 sea;";

  private static void goAll(OneAnger x, int weeks) {
    for (int left = weeks; left > 0; left -= 99) {
      x.go(Math.min(left, 99));
    }
  }

  /** All ANGERS of four behind some WEEKS. */
  private static String angersBehind(String text, int weeks) {
    OneAnger x = Check.told(text);
    goAll(x, weeks);
    StringBuilder all = new StringBuilder();
    for (int r = 0; r < 4; r++) {
      for (int p = 0; p < 4; p++) {
        all.append(x.old(r, p)).append(' ');
      }
    }
    return all.toString();
  }

  // ---- 17

  private static void promise17Numbers() {
    B.of(17);
    B.outside("go(%d)", 1, 99, BAD, OneAnger::go);
    OneAnger x = Check.told(ALL_WRONG);
    B.due("the least", 120, x.go(1));
    B.due("WEEK", 1, x.now(0));
    B.due("the greatest", 99 * 120, x.go(99));
    B.due("WEEK 100", 100, x.now(0));
    B.due("98", 98 * 120, x.go(98));
    B.due("summed", 198 * 120, x.now(1));
    B.due("wrongs", 198 * 6, x.now(2));
    x = new OneAnger();
    B.due("nobody there", 0, x.go(99));
    B.due("WEEK goes for nobody", 99, x.now(0));
    x = Place.ALONE.make();
    B.due("one alone", 0, x.go(99));
    B.due("WEEK of one alone", 99, x.now(0));
    B.due("GOT of one alone", 0, x.got(0));
  }

  private static void promise17OnceAndNinetyNineTimes() {
    B.of(17);
    for (Place at : Place.ALL) {
      OneAnger x = at.make();
      OneAnger other = at.make();
      int sum = 0;
      for (int week = 0; week < 99; week++) {
        sum += other.go(1);
      }
      B.due("99 at once (" + at.name + ")", sum, x.go(99));
      B.same("one by one (" + at.name + ")", Looks.look(other, 0), Looks.look(x, 0));
    }
  }

  private static void promise17AboveNought() {
    B.of(17);
    for (int spade = 3; spade <= 5; spade++) {
      OneAnger x = Check.told(CALM + "one quick " + spade + " 7 1 20 4;");
      B.due("WORTH " + (spade - 4), spade > 4 ? 7 : 0, x.go(1));
      B.due("wrongs", spade > 4 ? 1 : 0, x.now(2));
    }
  }

  private static OneAnger angry(int last, int hurt, int price, int days) {
    return Check.told("last " + last + ";one calm 0 0 " + hurt + " " + price + " " + days + " angry 1;" + CALM);
  }

  private static void promise17MakingUp() {
    B.of(17);
    for (int days = 1; days <= 4; days++) {
      OneAnger x = angry(5, 3, 2, days);
      for (int week = 1; week < days; week++) {
        x.go(1);
        B.due("DAYS " + days + " not yet", week, x.old(0, 1));
        B.due("HURT", -3 * week, x.got(1));
        B.due("no PRICE", 0, x.got(0));
      }
      x.go(1);
      B.due("DAYS " + days, NONE, x.old(0, 1));
      B.due("HURT and PRICE", -3 * days - 2, x.got(1));
      B.due("PRICE", 2, x.got(0));
    }
    OneAnger x = angry(9, 3, 2, 4);
    x.go(3);
    x.set(0, 5, 1);
    x.go(1);
    B.due("more than DAYS old", NONE, x.old(0, 1));
    B.due("PRICE is paid", 2, x.got(0));
    // Behind a WEEK of 5 it lacks 4: 8 is not less than 2 times 4, 7 is.
    for (int price = 7; price <= 9; price++) {
      x = angry(5, 2, price, 1);
      x.go(1);
      B.due("PRICE " + price, price < 8 ? NONE : 1, x.old(0, 1));
      B.due("paid", price < 8 ? 7 : 0, x.got(0));
      B.due("HURT", price < 8 ? -9 : -2, x.got(1));
    }
    x = angry(5, 0, 0, 1);
    x.go(4);
    B.due("PRICE 0 is not less than HURT 0", 4, x.old(0, 1));
    x.go(1);
    B.due("LAST", NONE, x.old(0, 1));
  }

  private static void promise17LastOld() {
    B.of(17);
    for (int last = 1; last <= 4; last++) {
      OneAnger x = angry(last, 20, 20, 4);
      x.go(last);
      B.due("LAST " + last + " ends it ahead of DAYS", NONE, x.old(0, 1));
      B.due("no PRICE", 0, x.got(0));
      B.due("HURT", -20 * last, x.got(1));
    }
    for (int last = 5; last <= 9; last++) {
      // PRICE 20 is not less than HURT 20 times 1, but than 20 times 2.
      OneAnger x = angry(last, 20, 20, 4);
      x.go(4);
      B.due("DAYS 4 of LAST " + last, last > 5 ? NONE : 4, x.old(0, 1));
      B.due("PRICE", last > 5 ? 20 : 0, x.got(0));
    }
    OneAnger x = angry(1, 0, 0, 1);
    x.point(1, 6);
    x.go(99);
    B.due("THE SEA never ends", 64, x.one(1, 8));
    B.due("the other one did", 0, x.one(0, 8));
  }

  // ---- 18

  private static void promise18Numbers() {
    B.of(18);
    B.outside("now(%d)", 0, 5, BAD, OneAnger::now);
    int[][] want = {{0, 0, 0, 0, 1, 0}, {0, 0, 0, 1, 1, 0}, {2, 18, 6, 1, 0, 4}, {2, 200, 12, 0, 0, 6},
      {1, 38, 6, 0, 0, 12}};
    for (int i = 0; i < 5; i++) {
      for (int what = 0; what <= 5; what++) {
        int w = what;
        B.leaves("now(" + what + ")", want[i][what], Place.ALL[i], x -> x.now(w));
      }
    }
    OneAnger x = Check.told(CALM.repeat(6));
    B.due("all six are FREE", 63, x.now(3));
    B.due("SAFE", 1, x.now(4));
    x = Check.told(CALM.repeat(5) + "one quick 4 0 1 20 4;");
    B.due("WORTH 0: SAFE", 1, x.now(4));
    x.set(5, 1, 5);
    B.due("WORTH 1: not SAFE", 0, x.now(4));
  }

  // ---- 19

  private static void promise19Numbers() {
    B.of(19);
    for (int what : new int[] {0, 1, 2, 3, 10}) {
      B.outside("run(%d, " + what + ")", 0, 99, FAR_BAD, (x, n) -> x.run(n, what));
    }
    for (int n : new int[] {0, 1, 99}) {
      B.outside("run(" + n + ", %d)", 0, 3, FAR_BAD, (x, what) -> x.run(n, what));
      for (int what : new int[] {9, 16, 17, Integer.MIN_VALUE + 9}) {
        B.everywhere("run(" + n + ", " + what + ")", FAR_BAD, x -> x.run(n, what));
      }
      for (Place at : Place.ALL) {
        int none = 10 + at.people;
        B.leaves("run(" + n + ", " + none + ")", FAR_BAD, at, x -> x.run(n, none));
      }
    }
  }

  private static void promise19NoWeeks() {
    B.of(19);
    for (Place at : Place.ALL) {
      int free = at.make().now(3);
      B.leaves("run(0, 0)", 0, at, x -> x.run(0, 0));
      B.leaves("run(0, 1)", 0, at, x -> x.run(0, 1));
      B.leaves("run(0, 2)", 0, at, x -> x.run(0, 2));
      B.leaves("run(0, 3)", free, at, x -> x.run(0, 3));
      for (int p = 0; p < at.people; p++) {
        int what = 10 + p;
        B.leaves("run(0, " + what + ")", 0, at, x -> x.run(0, what));
      }
    }
    OneAnger x = Check.told(ALL_WRONG);
    x.run(1, 2);
    B.due("nobody in the last of none", 0, x.run(0, 2));
    x.go(1);
    B.due("nobody in the last of none behind go()", 0, x.run(0, 2));
  }

  private static void promise19AsByGo() {
    B.of(19);
    for (Place at : Place.ALL) {
      for (int n : new int[] {1, 2, 98, 99}) {
        OneAnger x = at.make();
        int wrongs = x.now(2);
        int harm = x.go(n);
        B.leaves("run(" + n + ", 0)", harm, at, y -> y.run(n, 0));
        B.leaves("run(" + n + ", 1)", x.now(2) - wrongs, at, y -> y.run(n, 1));
        B.leaves("run(" + n + ", 3)", x.now(3), at, y -> y.run(n, 3));
        for (int p = 0; p < at.people; p++) {
          int what = 10 + p;
          int got = x.got(p) - at.make().got(p);
          B.leaves("run(" + n + ", " + what + ")", got, at, y -> y.run(n, what));
        }
      }
    }
    OneAnger x = Check.told(ALL_WRONG);
    int[] want = {99 * 120, 99 * 6, 63, 63};
    for (int what = 0; what <= 3; what++) {
      B.due("run(99, " + what + ")", want[what], x.run(99, what));
    }
    B.due("the least GOT", 99 * -80, x.run(99, 10));
    B.due("the greatest GOT", 99 * 20, x.run(99, 15));
    B.due("-1 is no BAD", -1, Check.told("one calm 1 1 0 0 1;one calm 0 0 0 0 1;").run(1, 10));
  }

  // ---- 20

  private static void promise20Ends() {
    B.of(20);
    B.leaves("peace()", 0, Place.EMPTY, OneAnger::peace);
    B.leaves("peace()", 0, Place.ALONE, OneAnger::peace);
    B.leaves("peace()", NONE, Place.FULL, OneAnger::peace);
    B.due("never", NONE, Check.told(ALL_WRONG).peace());
    OneAnger x = Check.told(LATE_PEACE);
    goAll(x, 801);
    B.due("the 100th WEEK from now on", NONE, x.peace());
    B.due("the 99th is not one", 0, x.run(99, 2) == 0 ? 1 : 0);
    x.go(1);
    B.due("the 99th", 98, x.peace());
    B.due("the 98th is not one", 0, x.run(98, 2) == 0 ? 1 : 0);
    B.due("who wrongs in the 99th", 0, x.run(99, 2));
    x.go(1);
    B.due("the 98th", 97, x.peace());
    x.go(96);
    B.due("the second", 1, x.peace());
    x.go(1);
    B.due("the next one", 0, x.peace());
    B.due("nothing is changed", 900, x.now(0));
    B.due("nobody wrongs in it", 0, x.run(1, 1));
  }

  // ---- 21

  private static void promise21Numbers() {
    B.of(21);
    B.outside("again(%d)", 0, 1, BAD, OneAnger::again);
    for (int what = 0; what <= 1; what++) {
      int w = what;
      B.leaves("again(" + what + ")", 1, Place.EMPTY, x -> x.again(w));
      B.leaves("again(" + what + ")", 1, Place.ALONE, x -> x.again(w));
    }
    for (int what : Bounds.around(0, 1)) {
      OneAnger x = Check.told(EACH_100);
      B.due("BAD ahead of NONE", BAD, x.again(what));
    }
  }

  private static void promise21Ends() {
    B.of(21);
    OneAnger x = Check.told(EACH_99);
    x.go(93);
    B.due("never as now", NONE, x.again(0));
    B.due("behind 100", NONE, x.again(1));
    x.go(1);
    B.due("behind 99", 99, x.again(0));
    B.due("behind 99 of any", 99, x.again(1));
    for (int week = 1; week <= 99; week++) {
      boolean like = angersBehind(EACH_99, 94).equals(angersBehind(EACH_99, 94 + week));
      B.due("as in WEEK 94 behind " + week, week == 99 ? 1 : 0, like ? 1 : 0);
    }
    x = Check.told(EACH_100);
    B.due("behind 100 is too late", NONE, x.again(0));
    B.due("behind 100 of any is, too", NONE, x.again(1));
    for (int week = 1; week <= 100; week++) {
      boolean like = angersBehind(EACH_100, 0).equals(angersBehind(EACH_100, week));
      B.due("as in WEEK 0 behind " + week, week == 100 ? 1 : 0, like ? 1 : 0);
    }
    x = Check.told(LATE_PEACE);
    goAll(x, 801);
    B.due("as in the WEEK before, behind 100", NONE, x.again(1));
    x.go(1);
    B.due("as in the WEEK before, behind 99", 99, x.again(1));
    B.due("as now never", NONE, x.again(0));
    x.go(98);
    B.due("as now at once", 1, x.again(0));
    B.due("as in the WEEK before at once", 1, x.again(1));
  }

  private static void promise21AsOld() {
    B.of(21);
    B.due("THE SEA for all six", 1, Check.told("one calm 0 0 0 0 1 sea;".repeat(6)).again(0));
    for (int last = 1; last <= 9; last++) {
      OneAnger x = angry(last, 0, 0, 1);
      // WEEKS 0 to LAST less 1 with it, then without it for ever.
      B.due("LAST " + last + " never as now", NONE, x.again(0));
      B.due("LAST " + last, last + 1, x.again(1));
      x.go(last);
      B.due("none, for ever", 1, x.again(0));
      x.point(1, 6);
      B.due("THE SEA stays", 1, x.again(0));
    }
  }

  // ---- 22

  private static void promise22Numbers() {
    B.of(22);
    B.outside("two(%d)", 1, 99, BAD, OneAnger::two);
    for (int n : new int[] {1, 2, 98, 99}) {
      B.leaves("two(" + n + ")", STATE, Place.MIDDLE, x -> x.two(n));
      B.leaves("two(" + n + ")", STATE, Place.TWOS, x -> x.two(n));
      B.leaves("two(" + n + ")", 100000, Place.EMPTY, x -> x.two(n));
      B.leaves("two(" + n + ")", 100000, Place.ALONE, x -> x.two(n));
      // The last one is taken by the sea; with a law of two nobody would wrong him.
      OneAnger x = Check.told(CALM.repeat(5) + "one quick 5 20 2 20 4 sea;");
      B.due("less: two(" + n + ")", 100000 - 100 * n, x.two(n));
      // Five wrong 0 (HARM 0); with a law of two four of them would wrong 1 (HARM 20).
      x = Check.told("one quick 5 0 2 20 4 sea;one calm 3 20 0 0 1;" + CALM.repeat(4));
      B.due("more: two(" + n + ")", 100000 + 80 * n, x.two(n));
      B.due("LAW is as before", 1, x.rule(0));
      B.due("WEEK is as before", 0, x.now(0));
    }
    int want = Place.FULL.make().two(1);
    B.leaves("two(1)", want, Place.FULL, x -> x.two(1));
    // 2 is angry with 0 for four WEEKS, in which both wrong him; by a law of two 1 would not.
    OneAnger x = Check.told(CALM + CALM + "one quick 5 3 2 20 4 angry 0;");
    B.due("both from the same WEEK on", 100000 - 12, x.two(4));
    // By a law of two, not of three, 2 has no room left when his guard has wronged him.
    x = Check.told("one guard 0 0 1 20 4 kin 2;" + CALM + "one quick 9 1 2 20 4 sea;");
    B.due("two, not three", 100000, x.two(1));
  }

  // ---- 23

  private static void promise23Numbers() {
    B.of(23);
    B.noSuchOne("were(%d, 0, 1)", BAD, (x, p) -> x.were(p, 0, 1));
    B.outside("were(0, %d, 1)", 0, 4, BAD, (x, sort) -> x.were(0, sort, 1));
    B.outside("were(0, 0, %d)", 1, 99, BAD, (x, n) -> x.were(0, 0, n));
    for (Place at : Place.ALL) {
      for (int p = 0; p < at.people; p++) {
        int who = p;
        int sort = at.make().one(p, 0);
        B.leaves("were(" + p + ", " + sort + ", 1)", 100000, at, x -> x.were(who, sort, 1));
        B.leaves("were(" + p + ", " + sort + ", 99)", 100000, at, x -> x.were(who, sort, 99));
      }
    }
  }

  private static void promise23AsSet() {
    B.of(23);
    for (Place at : new Place[] {Place.ALONE, Place.MIDDLE, Place.FULL, Place.TWOS}) {
      for (int sort = 0; sort <= 4; sort++) {
        for (int n : new int[] {1, 99}) {
          OneAnger as = at.make();
          int p = at.people - 1;
          int before = as.run(n, 10 + p);
          as.set(p, 0, sort);
          int want = as.run(n, 10 + p) - before + 100000;
          int s = sort;
          B.leaves("were(" + p + ", " + sort + ", " + n + ")", want, at, x -> x.were(p, s, n));
        }
      }
    }
    for (int n : new int[] {1, 2, 98, 99}) {
      OneAnger x = Check.told("one quick 20 20 5 20 4;" + CALM.repeat(5));
      B.due("calm: five wrong him", 100000 - 100 * n, x.were(0, 4, n));
      x.set(0, 0, 4);
      B.due("quick: nobody does", 100000 + 100 * n, x.were(0, 0, n));
      B.due("SORT is as before", 4, x.one(0, 0));
    }
  }

  public static void main(String[] args) {
    promise17Numbers();
    promise17OnceAndNinetyNineTimes();
    promise17AboveNought();
    promise17MakingUp();
    promise17LastOld();
    promise18Numbers();
    promise19Numbers();
    promise19NoWeeks();
    promise19AsByGo();
    promise20Ends();
    promise21Numbers();
    promise21Ends();
    promise21AsOld();
    promise22Numbers();
    promise23Numbers();
    promise23AsSet();
    B.end(17, 23);
  }
}
