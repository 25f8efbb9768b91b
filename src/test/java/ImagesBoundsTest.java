/** Bounds of promises 34 to 40: IMAGES, SHEETS, ANGERS read from them, how many. */
public final class ImagesBoundsTest {
  private static final Bounds B = new Bounds("ImagesBoundsTest");
  private static final int BAD = OneAnger.BAD, STATE = OneAnger.STATE, NONE = OneAnger.NONE;
  private static final int LEAST = Integer.MIN_VALUE, MOST = Integer.MAX_VALUE;
  private static final String CALM = "one calm 0 0 0 0 1;";
  // One lawful ANGER for each of six, and a second one.
  private static final int[] TWELVE = {0, 1, 1, 2, 2, 3, 3, 4, 4, 5, 5, 0, 0, 6, 1, 0, 2, 1, 3, 2, 4, 3, 5, 6};

  private static OneAnger six(int law) {
    return Check.told("law " + law + ";" + CALM.repeat(6));
  }

  // ---- 34

  private static void promise34Keep() {
    B.of(34);
    B.outside("keep(%d)", 0, 1, BAD, OneAnger::keep);
    int[][] had = {{0, 0}, {0, 0}, {0, 1}, {1, 1}, {1, 0}};
    for (int i = 0; i < 5; i++) {
      for (int k = 0; k <= 1; k++) {
        OneAnger x = Place.ALL[i].make();
        int images = x.count(2);
        String row = "keep(" + k + ") (" + Place.ALL[i].name + ")";
        B.due(row, had[i][k], x.keep(k));
        B.due(row + " again", 1, x.keep(k));
        B.due("IMAGES then", images + 1 - had[i][k], x.count(2));
        String kept = Looks.look(x, 0);
        if (x.count(0) > 0) {
          x.set(0, 2, 17);
          x.rest(0, 1);
          x.point(0, 6);
        }
        x.go(3);
        B.due("its WEEK", i == 2 || i == 3 ? 2 : i == 4 ? 1 : 0, x.back(k));
        B.same(row + " is all", kept, Looks.look(x, 0));
      }
    }
  }

  private static void promise34EachItsOwn() {
    B.of(34);
    OneAnger x = Check.told(CALM + CALM);
    x.keep(0);
    x.point(0, 1);
    x.go(1);
    x.keep(1);
    x.rest(0, 1);
    B.due("IMAGE 1", 1, x.back(1));
    B.due("ANGERS of IMAGE 1", 2, x.one(0, 8));
    B.due("as old", 1, x.old(0, 1));
    B.due("IMAGE 0", 0, x.back(0));
    B.due("ANGERS of IMAGE 0", 0, x.one(0, 8));
    x.point(1, 6);
    B.due("an IMAGE is not what stands", 0, x.back(0));
    B.due("ANGERS of IMAGE 0 again", 0, x.one(1, 8));
  }

  // ---- 35

  private static void promise35Back() {
    B.of(35);
    B.outside("back(%d)", 0, 1, BAD, OneAnger::back);
    for (int k = 0; k <= 1; k++) {
      int which = k;
      B.leaves("back(" + k + ")", STATE, Place.EMPTY, x -> x.back(which));
      B.leaves("back(" + k + ")", STATE, Place.ALONE, x -> x.back(which));
    }
    B.leaves("back(0)", STATE, Place.MIDDLE, x -> x.back(0));
    B.leaves("back(1)", STATE, Place.TWOS, x -> x.back(1));
    for (Place at : Place.ALL) {
      OneAnger x = at.make();
      x.end(0);
      x.village();
      B.due("IMAGES are gone", STATE, x.back(0));
      B.due("both", STATE, x.back(1));
    }
    OneAnger x = Place.FULL.make();
    B.due("back(0)", 0, x.back(0));
    B.due("back(1)", 1, x.back(1));
    B.due("IMAGES stay", 2, x.count(2));
    B.due("THE TAPE stays", 320, x.count(3));
    B.due("torn() stays", 3, x.torn());
    B.same("SHEETS stay", Place.FULL.look(3), Looks.look(x, 3));
    x = Place.FULL.make();
    x.end(0);
    Check.tell(x, "?");
    B.due("a text that is refused leaves IMAGES", 1, x.back(1));
    x = new OneAnger();
    x.keep(1);
    x.go(5);
    B.due("of nobody", 0, x.back(1));
    B.due("WEEK", 0, x.now(0));
  }

  // ---- 36

  private static void promise36Refused() {
    B.of(36);
    for (int n : new int[] {0, 1, 40, 41, -1}) {
      B.outside("sheet(%d, 0, " + n + ")", 0, 3, BAD, (x, k) -> x.sheet(k, 0, n));
      B.outside("sheet(0, %d, " + n + ")", 0, 2, BAD, (x, lane) -> x.sheet(0, lane, n));
    }
    for (int k = 0; k <= 3; k++) {
      for (int lane = 0; lane <= 2; lane++) {
        int which = k;
        int of = lane;
        for (int n : new int[] {41, 42, MOST}) {
          B.everywhere("sheet(" + k + ", " + lane + ", " + n + ")", BAD, x -> x.sheet(which, of, n));
        }
        for (int n : new int[] {-1, -2, LEAST}) {
          B.everywhere("sheet(" + k + ", " + lane + ", " + n + ")", -14, x -> x.sheet(which, of, n));
        }
      }
    }
  }

  private static OneAnger renewed(Place at, int k, int lane, int n) {
    OneAnger x = at.make();
    B.due("sheet(" + k + ", " + lane + ", " + n + ") (" + at.name + ")", 1, x.sheet(k, lane, n));
    x.end(0);
    Check.tell(x, CALM.repeat(6));
    return x;
  }

  /** Each CELL is 0, seen by laying 1 beside it: behind it, but for the last one. */
  private static void allNought(Place at, int k, int lane, int n) {
    OneAnger x = renewed(at, k, lane, n);
    for (int i = n - 2; i >= 0; i--) {
      x.lay(k, i + 1, 1);
      B.due("CELL " + i + " is 0", 1, x.read(k, lane, i, 1));
      B.due("0 with 1", 0, x.rest(0, 1));
    }
    if (n > 1) {
      x = renewed(at, k, lane, n);
      x.lay(k, n - 2, 1);
      B.due("the last CELL is 0", 1, x.read(k, lane, n - 2, 1));
      B.due("1 with 0", 0, x.rest(1, 0));
    }
  }

  private static void promise36New() {
    B.of(36);
    for (Place at : new Place[] {Place.EMPTY, Place.FULL, Place.TWOS}) {
      for (int k = 0; k <= 3; k++) {
        for (int lane = 0; lane <= 2; lane++) {
          for (int n : new int[] {0, 1, 2, 39, 40}) {
            allNought(at, k, lane, n);
            OneAnger x = renewed(at, k, lane, n);
            B.due("CELLS of SHEET 0", k == 0 ? n : at.make().count(4), x.count(4));
            B.due("the CELL behind the last", -12, x.lay(k, n, 7));
            B.due("of that lane", 0, x.read(k, (lane + 1) % 3, 0, 1));
            B.due("CAST else", 3, x.torn());
          }
        }
      }
    }
  }

  // ---- 37

  private static void promise37Refused() {
    B.of(37);
    for (int i : new int[] {0, -1, 40}) {
      B.outside("lay(%d, " + i + ", 5)", 0, 3, BAD, (x, k) -> x.lay(k, i, 5));
    }
    // CELLS of each SHEET; NONE: nothing.
    int[][] sizes = {{NONE, NONE, NONE, NONE}, {0, NONE, NONE, NONE}, {NONE, 0, 13, 40}, {40, 40, 40, 40},
      {39, 39, 39, 39}};
    for (int place = 0; place < 5; place++) {
      for (int k = 0; k <= 3; k++) {
        int which = k;
        int size = sizes[place][k];
        for (int i : new int[] {-1, size == NONE ? 0 : size, 40, LEAST, MOST}) {
          int want = size == NONE ? -11 : -12;
          B.leaves("lay(" + k + ", " + i + ", 5)", want, Place.ALL[place], x -> x.lay(which, i, 5));
        }
        if (size > 0) {
          B.due("the first CELL", 1, Place.ALL[place].make().lay(k, 0, 5));
          B.due("the last CELL", 1, Place.ALL[place].make().lay(k, size - 1, 5));
        }
      }
    }
  }

  /** CELL 1 of a SHEET becomes v: which ONE (or THE SEA) that is, or none. */
  private static void laid(int lane, int v, int want) {
    OneAnger x = six(1);
    x.sheet(2, lane, 4);
    Place.layAll(x, 2, 5, 0, 4, 3);
    String row = "lane " + lane + ", " + v;
    B.due(row + " is laid", 1, x.lay(2, 1, v));
    B.due(row, want < 0 ? -20 : 1, x.read(2, lane, 0, 1));
    B.due(row + " is", want < 0 ? 0 : 1 << want, x.one(5, 8));
    B.due("CELLS beside it are as before", 1, x.read(2, lane, 2, 1));
    B.due("4 with 3", 8, x.one(4, 8));
  }

  private static void promise37LowestBits() {
    B.of(37);
    for (int lane = 0; lane <= 2; lane++) {
      for (int v = 0; v <= 6; v++) {
        laid(lane, v, v == 5 ? -1 : v);
      }
      for (int v : new int[] {-1, 7, 127, 128, 129, 255, -128, -127, 32767, MOST}) {
        laid(lane, v, -1);
      }
      boolean bytes = lane == 0;
      boolean ints = lane == 2;
      laid(lane, 256, bytes ? 0 : -1);
      laid(lane, 257, bytes ? 1 : -1);
      laid(lane, -256, bytes ? 0 : -1);
      laid(lane, -250, bytes ? 6 : -1);
      laid(lane, -249, -1);
      laid(lane, 32768, bytes ? 0 : -1);
      laid(lane, 32769, bytes ? 1 : -1);
      laid(lane, -32767, bytes ? 1 : -1);
      laid(lane, 65535, -1);
      laid(lane, 65536, ints ? -1 : 0);
      laid(lane, 65542, ints ? -1 : 6);
      laid(lane, -65536, ints ? -1 : 0);
      laid(lane, LEAST, ints ? -1 : 0);
      laid(lane, LEAST + 4, ints ? -1 : 4);
    }
  }

  // ---- 38

  private static void promise38Refused() {
    B.of(38);
    for (int n : new int[] {0, 1, 12}) {
      B.outside("read(%d, 0, 0, " + n + ")", 0, 3, BAD, (x, k) -> x.read(k, 0, 0, n));
      B.outside("read(0, %d, 0, " + n + ")", 0, 2, BAD, (x, lane) -> x.read(0, lane, 0, n));
    }
    for (int k = 0; k <= 3; k++) {
      int which = k;
      B.outside("read(" + k + ", 0, 0, %d)", 0, 12, BAD, (x, n) -> x.read(which, 0, 0, n));
    }
    // Nobody has room for what the SHEETS tell.
    for (int k = 0; k <= 3; k++) {
      for (int n : new int[] {1, 12}) {
        int which = k;
        B.leaves("read(" + k + ", .., 0, " + n + ")", -20, Place.FULL, x -> x.read(which, which % 3, 0, n));
        B.leaves("read(" + k + ", .., 0, " + n + ")", -20, Place.TWOS, x -> x.read(which, which % 3, 0, n));
      }
    }
  }

  private static void promise38NoAngers() {
    B.of(38);
    for (Place at : Place.ALL) {
      for (int k = 0; k <= 3; k++) {
        for (int lane = 0; lane <= 2; lane++) {
          for (int f : new int[] {0, -1, 39, 40, LEAST, MOST}) {
            OneAnger x = at.make();
            String stood = Looks.look(x, 0).replaceFirst("torn \\d", "");
            B.due("n 0", 0, x.read(k, lane, f, 0));
            B.due("no FAULT", 0, x.torn());
            B.same("nothing came", stood, Looks.look(x, 0).replaceFirst("torn \\d", ""));
          }
        }
      }
    }
  }

  private static void promise38UpToTwelve() {
    B.of(38);
    for (int n = 1; n <= 12; n++) {
      for (int lane = 0; lane <= 2; lane++) {
        OneAnger x = six(2);
        x.sheet(1, lane, 24);
        Place.layAll(x, 1, TWELVE);
        B.due("read(1, " + lane + ", 0, " + n + ")", n, x.read(1, lane, 0, n));
        B.due("no FAULT", 0, x.torn());
        B.due("ANGERS", n, x.now(5));
        for (int r = 0; r < 6; r++) {
          int want = (n > r ? 1 << TWELVE[2 * r + 1] : 0) | (n > r + 6 ? 1 << TWELVE[2 * r + 13] : 0);
          B.due("of " + r, want, x.one(r, 8));
        }
      }
    }
    OneAnger x = six(2);
    x.sheet(1, 0, 24);
    Place.layAll(x, 1, TWELVE);
    B.due("n 13", BAD, x.read(1, 0, 0, 13));
    B.due("none came", 0, x.now(5));
    B.due("n 12", 12, x.read(1, 0, 0, 12));
    B.due("all LAW", 0, x.now(3));
    B.due("0 old", 0, x.old(5, 0));
    B.due("STATE of the first", -20, x.read(1, 0, 0, 1));
  }

  /** ANGER i of twelve is refused: -20 less i, and none came. */
  private static void promise38EachRefused() {
    B.of(38);
    int[][] wrong = {{6, 0}, {-1, 0}, {0, 0}, {1, 7}, {1, -1}, {5, 6}};
    for (int i = 0; i < 12; i++) {
      for (int[] cells : wrong) {
        OneAnger x = six(2);
        x.sheet(1, 1, 24);
        Place.layAll(x, 1, TWELVE);
        x.read(3, 0, 0, 1);
        x.lay(1, 2 * i, cells[0]);
        x.lay(1, 2 * i + 1, cells[1]);
        if (cells[1] == 6) {
          // He is angry with THE SEA already: STATE.
          x.point(5, 6);
        }
        B.due("refused: " + i, -20 - i, x.read(1, 1, 0, 12));
        B.due("none came", cells[1] == 6 ? 1 : 0, x.now(5));
        B.due("torn() is left", 1, x.torn());
        if (i > 0 && cells[1] != 6) {
          B.due("those ahead would", i, x.read(1, 1, 0, i));
        }
      }
    }
    OneAnger x = six(1);
    x.sheet(1, 1, 24);
    Place.layAll(x, 1, TWELVE);
    B.due("FULL by those ahead", -26, x.read(1, 1, 0, 7));
    B.due("none came of them", 0, x.now(5));
    B.due("six fit", 6, x.read(1, 1, 0, 6));
  }

  private static void promise38WhereItEnds() {
    B.of(38);
    for (int size : new int[] {0, 1, 2, 3, 23, 24}) {
      for (int f = 0; f <= size; f++) {
        OneAnger x = six(2);
        x.sheet(0, 2, size);
        for (int i = 0; i < size; i++) {
          x.lay(0, i, TWELVE[i]);
        }
        int whole = (size - f) / 2;
        if (f % 2 == 0) {
          B.due(size + " CELLS from " + f, whole, x.read(0, 2, f, 12));
          B.due("INDEX, if they are too few", whole < 12 ? 2 : 0, x.torn());
          B.due("those that were whole came", whole, x.now(5));
        } else if (whole == 0) {
          B.due(size + " CELLS from " + f, 0, x.read(0, 2, f, 1));
          B.due("half an ANGER is none", 2, x.torn());
          B.due("none came", 0, x.now(5));
        }
      }
    }
    int[] outside = {-1, -2, 40, 41, LEAST, LEAST + 1, MOST, MOST - 1, MOST - 23};
    for (int f : outside) {
      for (int n : new int[] {1, 12}) {
        OneAnger x = six(2);
        x.sheet(0, 0, 40);
        Place.layAll(x, 0, TWELVE);
        B.due("from " + f, 0, x.read(0, 0, f, n));
        B.due("INDEX", 2, x.torn());
        B.due("none came", 0, x.now(5));
      }
    }
    OneAnger x = six(2);
    x.sheet(0, 0, 40);
    x.lay(0, 38, 3);
    x.lay(0, 39, 6);
    B.due("the last two CELLS", 1, x.read(0, 0, 38, 1));
    B.due("3 with THE SEA", 64, x.one(3, 8));
    B.due("the last CELL is half of one", 0, x.read(0, 0, 39, 1));
    B.due("INDEX there", 2, x.torn());
    x.rest(3, 6);
    B.due("one, and the next one is torn", 1, x.read(0, 0, 38, 12));
    B.due("INDEX behind it", 2, x.torn());
    x.lay(0, 39, 7);
    B.due("refused ahead of the tear", -20, x.read(0, 0, 38, 12));
  }

  // ---- 39

  private static void promise39EachFault() {
    B.of(39);
    int[] torn = {0, 0, 2, 3, 0};
    for (int i = 0; i < 5; i++) {
      B.leaves("torn()", torn[i], Place.ALL[i], OneAnger::torn);
    }
    OneAnger x = six(1);
    x.sheet(1, 0, 0);
    x.sheet(2, 0, 2);
    x.lay(2, 1, 1);
    // k, lane, n and the FAULT.
    int[][] reads = {{0, 0, 1, 1}, {0, 2, 12, 1}, {1, 0, 1, 2}, {1, 1, 1, 3}, {2, 2, 1, 3}, {2, 0, 2, 2}, {0, 0, 0, 0},
      {1, 0, 0, 0}, {2, 1, 0, 0}, {0, 1, 1, 1}};
    for (int[] read : reads) {
      for (int[] then : reads) {
        x.rest(0, 1);
        x.read(read[0], read[1], 0, read[2]);
        B.due("FAULT", read[3], x.torn());
        B.due("FAULT again", read[3], x.torn());
        x.read(4, 0, 0, 1);
        x.read(0, 3, 0, 1);
        x.read(0, 0, 0, 13);
        x.lay(2, 2, 0);
        x.sheet(2, 0, -1);
        B.due("what is refused leaves it", read[3], x.torn());
        x.rest(0, 1);
        x.point(0, 6);
        B.due("refused by point()", -20, x.read(2, 0, 0, 1));
        B.due("leaves it, too", read[3], x.torn());
        x.rest(0, 6);
        x.read(then[0], then[1], 0, then[2]);
        B.due("FAULT of the latest", then[3], x.torn());
      }
      x = six(1);
      x.sheet(1, 0, 0);
      x.sheet(2, 0, 2);
      x.lay(2, 1, 1);
    }
  }

  // ---- 40

  private static void promise40Counts() {
    B.of(40);
    B.outside("count(%d)", 0, 4, BAD, OneAnger::count);
    int[][] want = {{0, 0, 0, 0, NONE}, {1, 0, 0, 1, 0}, {3, 1, 1, 63, NONE}, {6, 2, 2, 320, 40}, {6, 1, 1, 313, 39}};
    for (int i = 0; i < 5; i++) {
      for (int what = 0; what <= 4; what++) {
        int w = what;
        B.leaves("count(" + what + ")", want[i][what], Place.ALL[i], x -> x.count(w));
      }
    }
    for (int n = 0; n <= 6; n++) {
      OneAnger x = Check.told("one guard 0 0 0 0 1;".repeat(n) + CALM.repeat(6 - n));
      B.due(n + " GUARDS", n, x.count(1));
      B.due("PEOPLE", 6, x.count(0));
    }
    OneAnger x = new OneAnger();
    for (int n = 0; n <= 40; n++) {
      x.sheet(0, n % 3, n);
      B.due("CELLS", n, x.count(4));
      x.sheet(1, n % 3, 40 - n);
      B.due("of SHEET 0", n, x.count(4));
      B.due("bytes", 8 * n, x.count(3));
      x.feed(0L);
    }
  }

  public static void main(String[] args) {
    promise34Keep();
    promise34EachItsOwn();
    promise35Back();
    promise36Refused();
    promise36New();
    promise37Refused();
    promise37LowestBits();
    promise38Refused();
    promise38NoAngers();
    promise38UpToTwelve();
    promise38EachRefused();
    promise38WhereItEnds();
    promise39EachFault();
    promise40Counts();
    B.end(34, 40);
  }
}
