import java.util.function.ToLongFunction;

/** What the tests of bounds share: rows named by the promise's number, and calls that leave all as it was. */
final class Bounds {
  /** A call with one number that is tried at its bounds. */
  interface Call {
    long of(OneAnger x, int v);
  }

  private final Check check;
  private final boolean[] asked = new boolean[41];
  private int promise = 0;

  Bounds(String title) {
    check = new Check(title);
  }

  /** The rows that follow are of this promise. */
  void of(int number) {
    promise = number;
  }

  void due(String call, long want, long got) {
    asked[promise] = true;
    check.due(promise + ": " + call, want, got);
  }

  /** The call answers so, and all that can be asked behind it is as if it had not been made. */
  void leaves(String call, long want, Place at, ToLongFunction<OneAnger> f) {
    String row = call + " (" + at.name + ")";
    for (int kind = 0; kind < Looks.KINDS; kind++) {
      OneAnger x = at.make();
      int fault = x.fault();
      due(row, want, f.applyAsLong(x));
      due(row + " leaves fault()", fault, x.fault());
      same(row + " leaves all", at.look(kind), Looks.look(x, kind));
    }
  }

  void same(String row, String want, String got) {
    due(row, 1, got.equals(want) ? 1 : 0);
    if (!got.equals(want)) {
      System.out.println("  was " + want + "\n  is  " + got);
    }
  }

  /** The same answer in every Place, and nothing is changed by it. */
  void everywhere(String call, long want, ToLongFunction<OneAnger> f) {
    for (Place at : Place.ALL) {
      leaves(call, want, at, f);
    }
  }

  /** One below the least, one above the greatest, and the ends of all ints; %d is the number. */
  void outside(String form, int least, int most, long want, Call f) {
    for (int v : around(least, most)) {
      everywhere(String.format(form, v), want, x -> f.of(x, v));
    }
  }

  /** Numbers of no ONE: one below the first, one above the last, and the ends of all ints. */
  void noSuchOne(String form, long want, Call f) {
    for (Place at : Place.ALL) {
      for (int v : around(0, at.people - 1)) {
        leaves(String.format(form, v), want, at, x -> f.of(x, v));
      }
    }
  }

  static int[] around(int least, int most) {
    return new int[] {least - 1, most + 1, Integer.MIN_VALUE, Integer.MAX_VALUE};
  }

  /** Every promise from first to last has been asked for. */
  void end(int first, int last) {
    for (int n = first; n <= last; n++) {
      check.due("promise " + n + " has a row", 1, asked[n] ? 1 : 0);
    }
    check.end();
  }
}
