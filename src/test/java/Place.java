import java.util.function.Supplier;

/** An object to call on, made anew each time, from an empty one to one in which nothing has room left. */
final class Place {
  /** Exactly 320 bytes, six PEOPLE, nine lines: a text as long as may be. */
  static final String FULL_TEXT = padded("law 1;last 9;see 3;"
      + "one quick 20 19 18 17 4 angry 1;one keeper 19 5 4 3 3 keep 5 sea;one guard 18 4 3 2 2 kin 0 angry 5;"
      + "one feign 17 3 2 1 1 angry 0;one calm 16 2 1 0 4 sea;one guard 15 1 20 20 3 kin 4 angry 2;", 320);
  private static final String TWOS_TEXT = "law 2;last 3;see 0;"
      + "one quick 2 3 4 5 1 angry 1;one quick 3 4 5 6 2 angry 2;one keeper 4 5 6 7 3 angry 3;"
      + "one feign 5 6 7 8 4 angry 4;one guard 6 7 8 9 1 kin 5 angry 5;one calm 7 8 9 10 2 angry 0;";
  private static final String MIDDLE_TEXT = "last 5;one quick 9 4 3 2 1 angry 1;one feign 8 3 2 9 3;"
      + "see 7;one guard 7 2 1 20 4 kin 0 sea;law 2;";

  static final Place EMPTY = new Place("a new object", 0, OneAnger::new);
  static final Place ALONE = new Place("one alone", 1, Place::alone);
  static final Place MIDDLE = new Place("three", 3, Place::middle);
  static final Place FULL = new Place("all is full", 6, Place::full);
  static final Place TWOS = new Place("a law of two, full", 6, Place::twos);
  static final Place[] ALL = {EMPTY, ALONE, MIDDLE, FULL, TWOS};

  final String name;
  final int people;
  private final Supplier<OneAnger> maker;
  private final String[] looks = new String[Looks.KINDS];

  private Place(String name, int people, Supplier<OneAnger> maker) {
    this.name = name;
    this.people = people;
    this.maker = maker;
  }

  OneAnger make() {
    return maker.get();
  }

  /** What is found if nothing at all is called. */
  String look(int kind) {
    if (looks[kind] == null) {
      looks[kind] = Looks.look(make(), kind);
    }
    return looks[kind];
  }

  static String padded(String text, int length) {
    return text + " ".repeat(length - text.length());
  }

  static void layAll(OneAnger x, int k, int... cells) {
    for (int i = 0; i < cells.length; i++) {
      x.lay(k, i, cells[i]);
    }
  }

  private static OneAnger alone() {
    OneAnger x = Check.told("one quick 9 8 7 6 1;");
    x.sheet(0, 0, 0);
    x.feed(0x2020202020202020L);
    x.end(1);
    return x;
  }

  private static OneAnger middle() {
    OneAnger x = Check.told(MIDDLE_TEXT);
    x.keep(1);
    x.go(2);
    x.sheet(1, 0, 0);
    x.sheet(2, 1, 13);
    x.sheet(3, 2, 40);
    layAll(x, 2, 0, 1, 1, 2, 2, 6, 3, 4, 4, 5, 5, 0);
    layAll(x, 3, 5, 4, 4, 3, 3, 2, 2, 1, 1, 0, 0, 5);
    Check.tell(x, "law 3;");
    x.read(1, 0, 0, 1);
    Check.feedAll(x, "law 2;one calm 7 6 5 4 3 sea; last 2;one feign 1 2 3 4 4 kin 0;");
    return x;
  }

  private static void fillSheets(OneAnger x, int cells) {
    for (int k = 0; k < 4; k++) {
      x.sheet(k, k % 3, cells);
      layAll(x, k, 0, 1 + k, 1, 0, 2, 6, 3, 5, 4, k, 5, 3);
      x.lay(k, cells - 2, k);
      x.lay(k, cells - 1, 5);
    }
  }

  private static OneAnger full() {
    OneAnger x = Check.told(FULL_TEXT);
    x.keep(0);
    x.go(1);
    x.keep(1);
    x.go(1);
    fillSheets(x, 40);
    x.read(3, 1, 0, 1);
    for (int r = 0; r < 6; r++) {
      x.point(r, 6);
    }
    Check.feedAll(x, FULL_TEXT);
    return x;
  }

  private static OneAnger twos() {
    OneAnger x = Check.told(TWOS_TEXT);
    x.go(1);
    x.keep(0);
    for (int r = 0; r < 6; r++) {
      x.point(r, (r + 1) % 6);
      x.point(r, r < 3 ? 6 : (r + 2) % 6);
      x.point(r, (r + 3) % 6);
    }
    fillSheets(x, 39);
    Check.feedAll(x, padded(TWOS_TEXT, 313));
    return x;
  }
}
