import java.util.Random;

/** Long runs of calls by chance (the same ones each time): the class answers as the Model does. */
public final class ModelTest {
  private static final Check CHECK = new Check("ModelTest");
  private static final String[] SORTS = {"quick", "keeper", "guard", "feign", "calm"};
  private static final int RUNS = 1500, CALLS = 110;
  private static final int KINDS = 40;

  private final Random random;
  private final OneAnger x = new OneAnger();
  private final Model m = new Model();
  private final int run;
  private int people = 0;

  private ModelTest(int run) {
    this.run = run;
    random = new Random(run * 7919L + 17);
  }

  private int below(int n) {
    return random.nextInt(n);
  }

  private boolean rarely() {
    return below(25) == 0;
  }

  /** A number from least to most, seldom one beside it or far off. */
  private int number(int least, int most) {
    if (rarely()) {
      int[] odd = {least - 1, most + 1, Integer.MIN_VALUE, Integer.MAX_VALUE, -1, 6, 7};
      return odd[below(odd.length)];
    }
    return most < least ? least : least + below(most - least + 1);
  }

  private int who() {
    return number(0, people - 1);
  }

  private int weeks() {
    return below(4) == 0 ? number(1, 99) : number(1, 6);
  }

  private String blanks() {
    return " ".repeat(1 + (below(12) == 0 ? below(3) : 0));
  }

  private String lineOfOne(int of) {
    StringBuilder line = new StringBuilder("one" + blanks() + SORTS[below(5)]);
    int[] most = {20, 9, 6, 9};
    for (int bound : most) {
      line.append(blanks()).append(below(bound + 1));
    }
    line.append(blanks()).append(1 + below(4));
    if (below(3) == 0) {
      line.append(" keep ").append(below(10));
    }
    if (below(2) == 0) {
      line.append(" kin ").append(below(of));
    }
    if (below(4) == 0) {
      line.append(" angry ").append(below(of));
    }
    if (below(7) == 0) {
      line.append(" sea");
    }
    return line.append(blanks().substring(1)).append(';').toString();
  }

  private String text() {
    StringBuilder all = new StringBuilder();
    int of = 1 + below(6);
    if (below(2) == 0) {
      all.append("law ").append(1 + below(2)).append(';');
    }
    for (int p = 0; p < of; p++) {
      all.append(lineOfOne(of)).append(blanks().substring(1));
    }
    if (below(2) == 0) {
      all.append("last ").append(1 + below(9)).append(';');
    }
    if (below(2) == 0) {
      all.append(" see ").append(below(11)).append(';');
    }
    return all.toString();
  }

  private String spoilt(String text) {
    StringBuilder all = new StringBuilder(text);
    String signs = " ;0129aeknos?A\u00e9\u0000";
    for (int i = below(3); i >= 0; i--) {
      int place = below(all.length() + 1);
      int way = below(4);
      if (way == 0) {
        all.insert(place, signs.charAt(below(signs.length())));
      } else if (way == 1 && place < all.length()) {
        all.deleteCharAt(place);
      } else if (way == 2 && place < all.length()) {
        all.setCharAt(place, signs.charAt(below(signs.length())));
      } else if (way == 3 && place > 0) {
        all.setLength(place);
      }
    }
    return all.toString();
  }

  private void due(String call, long want, long got) {
    CHECK.due("run " + run + ": " + call, want, got);
  }

  private void tell(String text) {
    for (int i = 0; i < text.length(); i += 8) {
      long v = 0L;
      for (int j = i; j < i + 8; j++) {
        v = v << 8 | (j < text.length() ? text.charAt(j) & 255 : 32);
      }
      due("feed", m.feed(v), x.feed(v));
    }
    int n = Math.min(text.length(), 320);
    due("end", m.end(n), x.end(n));
    due("village() of '" + text + "'", m.village(), x.village());
    due("fault() of '" + text + "'", m.fault(), x.fault());
    people = x.count(0);
  }

  private void tellPeople() {
    for (int i = 0; i < 40 && people == 0; i++) {
      tell(text());
    }
  }

  private void callOfText(int kind) {
    int p = who();
    int q = below(6) == 0 ? 6 : who();
    int what = number(0, 10);
    int v = number(0, what == 0 || what == 5 ? 4 : 20);
    switch (kind) {
      case 0: due("feed(" + v + ")", m.feed(v), x.feed(v)); break;
      case 1: due("end(" + v + ")", m.end(v), x.end(v)); break;
      case 2: due("fault()", m.fault(), x.fault()); break;
      case 3: due("rule(" + what + ")", m.rule(what), x.rule(what)); break;
      case 4: due("one(" + p + ", " + what + ")", m.one(p, what), x.one(p, what)); break;
      case 5: due("set(" + p + ", " + what + ", " + v + ")", m.set(p, what, v), x.set(p, what, v)); break;
      case 6: due("old(" + p + ", " + q + ")", m.old(p, q), x.old(p, q)); break;
      case 7: due("got(" + p + ")", m.got(p), x.got(p)); break;
      case 8: due("point(" + p + ", " + q + ")", m.point(p, q), x.point(p, q)); break;
      default: due("rest(" + p + ", " + q + ")", m.rest(p, q), x.rest(p, q)); break;
    }
  }

  private void callOfWeeks(int kind) {
    int p = who();
    int q = who();
    int what = number(0, 1);
    int n = weeks();
    int asked = number(0, 5);
    int ran = below(2) == 0 ? asked : 10 + who();
    int sort = number(0, 4);
    switch (kind) {
      case 10: due("would(" + p + ", " + q + ")", m.would(p, q), x.would(p, q)); break;
      case 11: due("worth(" + p + ", " + q + ", " + what + ")", m.worth(p, q, what), x.worth(p, q, what)); break;
      case 12: due("whom(" + p + ")", m.whom(p), x.whom(p)); break;
      case 13: due("wrong(" + p + ", " + q + ")", m.wrong(p, q), x.wrong(p, q)); break;
      case 14: due("go(" + n + ")", m.go(n), x.go(n)); break;
      case 15: due("now(" + asked + ")", m.now(asked), x.now(asked)); break;
      case 16: due("run(" + n + ", " + ran + ")", m.run(n, ran), x.run(n, ran)); break;
      case 17: due("peace()", m.peace(), x.peace()); break;
      case 18: due("again(" + what + ")", m.again(what), x.again(what)); break;
      case 19: due("two(" + n + ")", m.two(n), x.two(n)); break;
      default: due("were(" + p + ", " + sort + ", " + n + ")", m.were(p, sort, n), x.were(p, sort, n)); break;
    }
  }

  private void callOfGains(int kind) {
    int p = who();
    int q = who();
    int what = number(0, 1);
    int h = below(2) == 0 ? number(0, 99) : number(0, 6);
    int asked = number(0, 2);
    switch (kind) {
      case 21: due("open()", m.open(), x.open()); break;
      case 22: due("fewest(" + what + ")", m.fewest(what), x.fewest(what)); break;
      case 23: due("always()", m.always(), x.always()); break;
      case 24: due("where(" + what + ")", m.where(what), x.where(what)); break;
      case 25: due("hire(" + h + ", " + what + ")", m.hire(h, what), x.hire(h, what)); break;
      case 26: due("price(" + p + ")", m.price(p), x.price(p)); break;
      case 27: due("ring(" + asked + ")", m.ring(asked), x.ring(asked)); break;
      case 28: due("odds(" + p + ", " + q + ", " + what + ")", m.odds(p, q, what), x.odds(p, q, what)); break;
      case 29: due("mean(" + p + ", " + what + ")", m.mean(p, what), x.mean(p, what)); break;
      default: due("likeliest(" + p + ")", m.likeliest(p), x.likeliest(p)); break;
    }
  }

  private void callOfSheets(int kind) {
    int k = number(0, 1);
    int sheet = number(0, 3);
    int lane = number(0, 2);
    int n = below(3) == 0 ? number(0, 40) : number(1, 9);
    int i = number(0, 7);
    int v = below(4) == 0 ? (who() & 255) + 256 * below(3) : below(7);
    int many = below(3) == 0 ? number(0, 12) : number(0, 3);
    int asked = number(0, 4);
    switch (kind) {
      case 31: due("keep(" + k + ")", m.keep(k), x.keep(k)); break;
      case 32: due("back(" + k + ")", m.back(k), x.back(k)); break;
      case 33: due("sheet(" + sheet + ", " + lane + ", " + n + ")", m.sheet(sheet, lane, n), x.sheet(sheet, lane, n)); break;
      case 34: case 35: case 36:
        due("lay(" + sheet + ", " + i + ", " + v + ")", m.lay(sheet, i, v), x.lay(sheet, i, v)); break;
      case 37:
        due("read(" + sheet + ", " + lane + ", " + i + ", " + many + ")",
            m.read(sheet, lane, i, many), x.read(sheet, lane, i, many)); break;
      case 38: due("torn()", m.torn(), x.torn()); break;
      default: due("count(" + asked + ")", m.count(asked), x.count(asked)); break;
    }
  }

  private void call() {
    int kind = below(KINDS);
    if (rarely() && rarely()) {
      tell(spoilt(text()));
    } else if (kind < 10) {
      callOfText(kind);
    } else if (kind < 21) {
      callOfWeeks(kind);
    } else if (kind < 31) {
      callOfGains(kind);
    } else {
      callOfSheets(kind);
    }
  }

  /** Many ANGERS at once, so that there are RINGS. */
  private void angers() {
    for (int i = 0; i < 4 * people; i++) {
      int r = who();
      int p = who();
      due("point(" + r + ", " + p + ")", m.point(r, p), x.point(r, p));
    }
    for (int what = 0; what <= 2; what++) {
      due("ring(" + what + ")", m.ring(what), x.ring(what));
    }
  }

  private void wholeState() {
    for (int what = 0; what <= 5; what++) {
      due("now(" + what + ")", m.now(what), x.now(what));
    }
    for (int p = 0; p < people; p++) {
      for (int what = 0; what <= 10; what++) {
        due("one(" + p + ", " + what + ")", m.one(p, what), x.one(p, what));
      }
      due("got(" + p + ")", m.got(p), x.got(p));
      for (int q = 0; q < people; q++) {
        due("old(" + p + ", " + q + ")", m.old(p, q), x.old(p, q));
      }
    }
  }

  private void play() {
    if (run % 3 == 0) {
      for (int i = 0; i < 12; i++) {
        tell(spoilt(text()));
      }
    }
    tellPeople();
    for (int i = 0; i < CALLS; i++) {
      call();
    }
    wholeState();
    angers();
  }

  public static void main(String[] args) {
    for (int run = 0; run < RUNS; run++) {
      new ModelTest(run).play();
    }
    CHECK.end();
  }
}
