/** Promises 34 to 40: IMAGES, SHEETS, ANGERS read from them, how many. */
public final class ImagesTest {
  private static final Check CHECK = new Check("ImagesTest");

  private static void due(String call, long want, long got) {
    CHECK.due(call, want, got);
  }

  private static void images() {
    OneAnger x = Check.told("one quick 5 1 1 20 4;one quick 3 2 2 20 4;");
    due("34: keep(-1)", OneAnger.BAD, x.keep(-1));
    due("34: keep(2)", OneAnger.BAD, x.keep(2));
    due("35: back(-1)", OneAnger.BAD, x.back(-1));
    due("35: back(2)", OneAnger.BAD, x.back(2));
    due("35: back(0)", OneAnger.STATE, x.back(0));
    x.go(2);
    due("34: keep(0)", 0, x.keep(0));
    due("40: IMAGES", 1, x.count(2));
    due("35: back(1)", OneAnger.STATE, x.back(1));
    x.go(3);
    x.set(0, 1, 9);
    x.set(1, 0, 4);
    due("34: keep(1)", 0, x.keep(1));
    due("40: two IMAGES", 2, x.count(2));
    due("35: back(0)", 2, x.back(0));
    due("35: SPADE", 5, x.one(0, 1));
    due("35: SORT", 0, x.one(1, 0));
    due("35: age", 2, x.old(0, 1));
    due("35: GOT", 8, x.got(1));
    due("35: WEEK", 2, x.now(0));
    due("35: HARM DONE", 2, x.now(1));
    due("35: wrongs", 2, x.now(2));
    due("40: IMAGES stay", 2, x.count(2));
    due("35: back(1)", 5, x.back(1));
    due("35: SPADE then", 9, x.one(0, 1));
    due("35: HARM DONE then", 5, x.now(1));
    x.rest(0, 1);
    due("34: keep(0) again", 1, x.keep(0));
    x.point(0, 6);
    due("35: back(0) again", 5, x.back(0));
    due("35: no ANGER", 0, x.one(0, 8));
  }

  private static void sheets() {
    OneAnger x = new OneAnger();
    due("40: nothing", OneAnger.NONE, x.count(4));
    due("36: k -1", OneAnger.BAD, x.sheet(-1, 0, 1));
    due("36: k 4", OneAnger.BAD, x.sheet(4, 0, 1));
    due("36: lane -1", OneAnger.BAD, x.sheet(0, -1, 1));
    due("36: lane 3", OneAnger.BAD, x.sheet(0, 3, 1));
    due("36: n 41", OneAnger.BAD, x.sheet(0, 0, 41));
    due("36: n -1", -14, x.sheet(0, 0, -1));
    due("36: least n", -14, x.sheet(0, 0, Integer.MIN_VALUE));
    due("36: BAD ahead of SIZE", OneAnger.BAD, x.sheet(4, 0, -1));
    due("36: BAD ahead of SIZE, lane", OneAnger.BAD, x.sheet(0, 3, -1));
    due("40: nothing still", OneAnger.NONE, x.count(4));
    due("36: no CELL", 1, x.sheet(0, 0, 0));
    due("40: no CELL", 0, x.count(4));
    due("37: INDEX", -12, x.lay(0, 0, 0));
    due("36: 40", 1, x.sheet(0, 2, 40));
    due("40: 40", 40, x.count(4));
    due("37: lay(0, 39, 5)", 1, x.lay(0, 39, 5));
    due("37: lay(0, 40, 5)", -12, x.lay(0, 40, 5));
    due("37: lay(0, -1, 5)", -12, x.lay(0, -1, 5));
    due("37: NULL", -11, x.lay(1, -1, 5));
    due("37: k -1", OneAnger.BAD, x.lay(-1, 0, 5));
    due("37: k 4", OneAnger.BAD, x.lay(4, 0, 5));
    due("36: SIZE leaves it", -14, x.sheet(0, 0, -2));
    due("40: 40 still", 40, x.count(4));
  }

  private static OneAnger four(int law) {
    return Check.told("law " + law + ";" + "one calm 0 0 0 0 1;".repeat(4));
  }

  private static void layAll(OneAnger x, int k, int... cells) {
    for (int i = 0; i < cells.length; i++) {
      x.lay(k, i, cells[i]);
    }
  }

  private static void reading() {
    OneAnger x = four(1);
    x.sheet(2, 0, 7);
    layAll(x, 2, 9, 0, 1, 1, 6, 2, 0);
    due("38: two", 2, x.read(2, 0, 1, 2));
    due("39: no FAULT", 0, x.torn());
    due("7: 0 with 1", 2, x.one(0, 8));
    due("7: 1 with the sea", 64, x.one(1, 8));
    due("7: 2 with nobody", 0, x.one(2, 8));
    due("38: one more, the next is half", 1, x.read(2, 0, 5, 2));
    due("39: INDEX", 2, x.torn());
    due("7: 2 with 0", 1, x.one(2, 8));
    due("38: half alone", 0, x.read(2, 0, 6, 1));
    due("39: INDEX again", 2, x.torn());
    due("38: none is wanted", 0, x.read(2, 1, 99, 0));
    due("39: no FAULT then", 0, x.torn());
    due("38: CAST", 0, x.read(2, 1, 0, 1));
    due("39: CAST", 3, x.torn());
    due("38: CAST ahead of INDEX", 0, x.read(2, 2, -1, 1));
    due("39: CAST again", 3, x.torn());
    due("38: NULL", 0, x.read(3, 1, 0, 1));
    due("39: NULL", 1, x.torn());
    due("38: nothing, none wanted", 0, x.read(3, 1, 0, 0));
    due("39: no FAULT there", 0, x.torn());
    int[] outside = {-1, -2, 7, Integer.MIN_VALUE, Integer.MAX_VALUE, Integer.MAX_VALUE - 1};
    for (int f : outside) {
      due("38: from " + f, 0, x.read(2, 0, f, 12));
      due("39: INDEX from " + f, 2, x.torn());
    }
  }

  private static void refused() {
    OneAnger x = four(2);
    x.sheet(0, 1, 8);
    layAll(x, 0, 0, 1, 0, 2, 0, 3, 1, 0);
    x.read(3, 0, 0, 1);
    due("38: FULL by those ahead", -22, x.read(0, 1, 0, 4));
    due("18: none came", 0, x.now(5));
    due("39: it is left", 1, x.torn());
    due("38: two fit", 2, x.read(0, 1, 0, 2));
    due("39: no FAULT", 0, x.torn());
    due("38: STATE", -20, x.read(0, 1, 0, 1));
    x.lay(0, 4, 4);
    due("38: BAD, no such ONE", -20, x.read(0, 1, 4, 2));
    layAll(x, 0, 1, 2, 3, 3);
    due("38: BAD, himself", -21, x.read(0, 1, 0, 2));
    due("7: none came", 0, x.one(1, 8));
    layAll(x, 0, 1, 2, 1, 2);
    due("38: STATE by the one ahead", -21, x.read(0, 1, 0, 12));
    due("38: refused ahead of the tear", -20, x.read(0, 1, 4, 12));
    layAll(x, 0, 1, 2, 1, 3, 2, 0, 3, 6);
    due("38: all four, then torn", 4, x.read(0, 1, 0, 12));
    due("39: INDEX", 2, x.torn());
    due("18: ANGERS", 6, x.now(5));
    due("38: k -1", OneAnger.BAD, x.read(-1, 1, 0, 1));
    due("38: k 4", OneAnger.BAD, x.read(4, 1, 0, 1));
    due("38: lane -1", OneAnger.BAD, x.read(0, -1, 0, 1));
    due("38: lane 3", OneAnger.BAD, x.read(0, 3, 0, 1));
    due("38: n -1", OneAnger.BAD, x.read(0, 1, 0, -1));
    due("38: n 13", OneAnger.BAD, x.read(0, 1, 0, 13));
    due("39: BAD leaves it", 2, x.torn());
  }

  private static void lanes() {
    OneAnger x = four(2);
    x.sheet(0, 0, 2);
    layAll(x, 0, 256, -255);
    due("37: bytes, 0 and 1", 1, x.read(0, 0, 0, 1));
    due("7: 0 with 1", 2, x.one(0, 8));
    layAll(x, 0, 2, 128);
    due("37: a byte has a sign", -20, x.read(0, 0, 0, 1));
    x.sheet(1, 1, 2);
    layAll(x, 1, 65536 + 1, -65536);
    due("37: shorts, 1 and 0", 1, x.read(1, 1, 0, 1));
    due("7: 1 with 0", 1, x.one(1, 8));
    layAll(x, 1, 256, 1);
    due("37: 256 is kept by a short", -20, x.read(1, 1, 0, 1));
    x.sheet(2, 2, 2);
    layAll(x, 2, 2, 65536);
    due("37: 65536 is kept by an int", -20, x.read(2, 2, 0, 1));
    layAll(x, 2, 2, 3);
    due("38: ints", 1, x.read(2, 2, 0, 1));
    due("36: new", 1, x.sheet(2, 2, 2));
    due("36: with CELLS 0: himself", -20, x.read(2, 2, 0, 1));
    x.sheet(3, 2, 2);
    layAll(x, 3, 3, 0);
    due("36: the fourth", 1, x.read(3, 2, 0, 1));
    layAll(x, 3, 3, 2);
    x.sheet(3, 0, 2);
    due("36: CELLS of the one before are gone", -20, x.read(3, 0, 0, 1));
    due("7: 3 with 0 alone", 1, x.one(3, 8));
    x.sheet(2, 2, 40);
    x.sheet(2, 2, 3);
    due("37: it has 3", -12, x.lay(2, 3, 0));
  }

  private static void counts() {
    OneAnger x = Check.told("one guard 0 0 0 0 1;one calm 0 0 0 0 1;one guard 0 0 0 0 1;");
    due("40: PEOPLE", 3, x.count(0));
    due("40: GUARDS", 2, x.count(1));
    due("40: IMAGES", 0, x.count(2));
    x.set(1, 0, 2);
    due("40: GUARDS then", 3, x.count(1));
    due("40: tape", 0, x.count(3));
    x.feed(0L);
    x.end(5);
    due("40: tape then", 5, x.count(3));
    due("40: what -1", OneAnger.BAD, x.count(-1));
    due("40: what 5", OneAnger.BAD, x.count(5));
    x.keep(1);
    due("40: one IMAGE", 1, x.count(2));
  }

  public static void main(String[] args) {
    images();
    sheets();
    reading();
    refused();
    lanes();
    counts();
    CHECK.end();
  }
}
