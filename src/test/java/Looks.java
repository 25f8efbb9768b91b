/** All that can be asked of an object, in five parts, so that two objects can be held side by side. */
final class Looks {
  /** What stands; what stands behind back(0), back(1); SHEETS; the village that THE TAPE tells. */
  static final int KINDS = 5;
  // Where the last two CELLS of the Places' SHEETS are.
  private static final int[] LAST_CELLS = {10, 37, 38};
  private static final String SIX_FREE = "law 2;" + "one calm 0 0 0 0 1;".repeat(6);

  private Looks() {
  }

  /** A look changes the object (but for kind 0), so that each has its own. */
  static String look(OneAnger x, int kind) {
    StringBuilder all = new StringBuilder();
    switch (kind) {
      case 0:
        break;
      case 1:
      case 2:
        all.append("back ").append(x.back(kind - 1));
        break;
      case 3:
        sheets(x, all);
        return all.toString();
      default:
        all.append("tape ").append(x.village()).append(" fault ").append(x.fault());
        break;
    }
    stands(x, all);
    return all.toString();
  }

  private static void stands(OneAnger x, StringBuilder all) {
    all.append(" torn ").append(x.torn());
    for (int what = 0; what <= 2; what++) {
      all.append(" rule ").append(x.rule(what));
    }
    for (int what = 0; what <= 4; what++) {
      all.append(" count ").append(x.count(what));
    }
    for (int what = 0; what <= 5; what++) {
      all.append(" now ").append(x.now(what));
    }
    int people = x.count(0);
    for (int p = 0; p < people; p++) {
      all.append(" one ").append(p).append(" got ").append(x.got(p));
      for (int what = 0; what <= 10; what++) {
        all.append(' ').append(x.one(p, what));
      }
      for (int q = 0; q < people; q++) {
        all.append(" old ").append(x.old(p, q));
      }
    }
  }

  // Told to six who are free, the CELLS at both ends of a SHEET are seen as the ANGERS that come.
  private static void sheets(OneAnger x, StringBuilder all) {
    x.end(0);
    Check.tell(x, SIX_FREE);
    x.keep(0);
    for (int k = 0; k < 4; k++) {
      for (int lane = 0; lane < 3; lane++) {
        angers(x, k, lane, 0, 6, all);
        for (int f : LAST_CELLS) {
          angers(x, k, lane, f, 1, all);
        }
      }
      all.append(" sheet ").append(k).append(" of ").append(sizeOf(x, k));
    }
  }

  private static void angers(OneAnger x, int k, int lane, int f, int n, StringBuilder all) {
    int came = x.read(k, lane, f, n);
    all.append(" came ").append(came).append(" torn ").append(x.torn());
    if (came > 0) {
      for (int r = 0; r < 6; r++) {
        all.append(' ').append(x.one(r, 8));
      }
      x.back(0);
    }
  }

  private static int sizeOf(OneAnger x, int k) {
    int size = 0;
    for (int step = 32; step > 0; step /= 2) {
      if (x.lay(k, size + step - 1, 0) == 1) {
        size += step;
      }
    }
    return x.lay(k, 0, 0) == -11 ? OneAnger.NONE : size;
  }
}
