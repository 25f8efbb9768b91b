import java.math.BigInteger;
import java.nio.ByteBuffer;
import java.util.ArrayList;
import java.util.Arrays;
import java.util.HashSet;
import java.util.List;
import java.util.Set;
import java.util.TreeMap;
import java.util.function.IntPredicate;
import java.util.regex.Matcher;
import java.util.regex.Pattern;

/** The document's words once more, with the Java library and without any care for speed: what ModelTest compares. */
final class Model {
  static final long BAD = -1, STATE = -2, FULL = -3, NONE = -4, FAR = -1000000;
  private static final int THE_SEA = 6, NOBODY_THERE = 99;
  private static final List<String> SORTS = List.of("quick", "keeper", "guard", "feign", "calm");

  private static final class One {
    int[] traits = new int[7];
    int kin = -4;
    boolean hired = false;
    TreeMap<Integer, Integer> angers = new TreeMap<>();
    int got = 0;

    One copy() {
      One other = new One();
      other.traits = traits.clone();
      other.kin = kin;
      other.hired = hired;
      other.angers = new TreeMap<>(angers);
      other.got = got;
      return other;
    }

    int sort() { return traits[0]; }
    int spade() { return traits[1]; }
    int harm() { return traits[2]; }
    int hurt() { return traits[3]; }
    int price() { return traits[4]; }
    int days() { return traits[5]; }
    int keep() { return traits[6]; }
  }

  private static final class World {
    List<One> people = new ArrayList<>();
    int law = 1, last = 4, see = 10, week = 0, harmDone = 0, wrongs = 0;
    Set<Integer> latest = new HashSet<>();

    World copy() {
      World other = new World();
      for (One one : people) {
        other.people.add(one.copy());
      }
      other.law = law;
      other.last = last;
      other.see = see;
      other.week = week;
      other.harmDone = harmDone;
      other.wrongs = wrongs;
      return other;
    }

    int size() {
      return people.size();
    }

    boolean free(int r) {
      return people.get(r).angers.size() < law;
    }

    boolean freeAsSeen(int r) {
      return people.get(r).sort() != 3 && free(r);
    }

    int cost(int r) {
      One one = people.get(r);
      int whole = one.hurt() * last;
      int madeUp = one.price() + one.hurt() * one.days();
      return madeUp < whole ? madeUp : whole;
    }

    List<Integer> would(int p, int q, IntPredicate isFree) {
      List<Integer> angry = new ArrayList<>();
      for (int r = 0; r < size(); r++) {
        One one = people.get(r);
        if (r == p || !isFree.test(r) || one.angers.containsKey(p)) {
          continue;
        }
        boolean minds = false;
        if (one.sort() == 0 || one.sort() == 3) {
          minds = r == q;
        } else if (one.sort() == 1) {
          minds = r == q && one.harm() >= one.keep();
        } else if (one.sort() == 2) {
          minds = r == q || one.kin == q;
        }
        if (minds) {
          angry.add(r);
        }
      }
      return angry;
    }

    int worth(int p, int q, IntPredicate isFree) {
      return people.get(q).spade() - would(p, q, isFree).stream().mapToInt(this::cost).sum();
    }

    int whom(int p, IntPredicate isFree) {
      int best = -4;
      for (int q = size() - 1; q >= 0; q--) {
        if (q != p && worth(p, q, isFree) > 0 && (best == -4 || worth(p, q, isFree) >= worth(p, best, isFree))) {
          best = q;
        }
      }
      return best;
    }

    void wrong(int p, int q) {
      List<Integer> angry = would(p, q, this::free);
      people.get(p).got += people.get(q).spade();
      people.get(q).got -= people.get(q).harm();
      for (int r : angry) {
        people.get(r).angers.put(p, 0);
      }
    }

    int passWeek() {
      int harm = 0;
      latest.clear();
      for (int p = 0; p < size(); p++) {
        int q = whom(p, this::freeAsSeen);
        if (q >= 0) {
          wrong(p, q);
          harm += people.get(q).harm();
          wrongs++;
          latest.add(p);
        }
      }
      for (One one : people) {
        for (int p : one.angers.keySet()) {
          if (p < size()) {
            people.get(p).got -= one.hurt();
            one.angers.merge(p, 1, Integer::sum);
          }
        }
      }
      for (One one : people) {
        for (int p : List.copyOf(one.angers.keySet())) {
          if (p < size()) {
            finish(one, p);
          }
        }
      }
      week++;
      harmDone += harm;
      return harm;
    }

    private void finish(One one, int p) {
      int age = one.angers.get(p);
      if (age == last) {
        one.angers.remove(p);
      } else if (age >= one.days() && one.price() < one.hurt() * (last - age)) {
        people.get(p).got -= one.price();
        one.got += one.price();
        one.angers.remove(p);
      }
    }

    List<int[]> open() {
      List<int[]> list = new ArrayList<>();
      for (int p = 0; p < size(); p++) {
        for (int q = 0; q < size(); q++) {
          if (p != q && !people.get(p).hired && !people.get(q).hired && worth(p, q, this::freeAsSeen) > 0) {
            list.add(new int[] {p, q});
          }
        }
      }
      return list;
    }

    World ready(int bits) {
      World other = copy();
      for (int r = 0; r < size(); r++) {
        other.people.get(r).angers.clear();
        if ((bits & 1 << r) == 0) {
          other.people.get(r).angers.put(THE_SEA, 0);
          if (law == 2) {
            other.people.get(r).angers.put(NOBODY_THERE, 0);
          }
        }
      }
      return other;
    }

    World hired(int h, int q) {
      World other = copy();
      One guard = new One();
      guard.traits = new int[] {2, 0, 0, h, 20, 4, 0};
      guard.kin = q;
      guard.hired = true;
      other.people.add(guard);
      return other;
    }

    List<TreeMap<Integer, Integer>> state() {
      List<TreeMap<Integer, Integer>> all = new ArrayList<>();
      for (One one : people) {
        all.add(new TreeMap<>(one.angers));
      }
      return all;
    }
  }

  private static final class Fault extends Exception {
    private static final long serialVersionUID = 1L;
    final int kind;
    final int place;

    Fault(int kind, int place) {
      this.kind = kind;
      this.place = place;
    }
  }

  private World world = new World();
  private final World[] images = new World[2];
  private final List<Integer> tape = new ArrayList<>();
  private int fault = 0;
  private int torn = 0;
  // A byte[], short[] or int[] each, so that the machine itself would find the faults.
  private final Object[] sheets = new Object[4];

  // ---- the text

  long feed(long v) {
    if (tape.size() > 312) {
      return FULL;
    }
    for (byte b : ByteBuffer.allocate(8).putLong(v).array()) {
      tape.add(b & 255);
    }
    return tape.size();
  }

  long end(int n) {
    if (n < 0 || n > tape.size()) {
      return BAD;
    }
    int had = tape.size();
    tape.subList(n, had).clear();
    return had;
  }

  private String text = "";
  private int at = 0;
  private int start = 0;
  private String token = null;

  private static final Pattern TOKEN = Pattern.compile("[a-z]+|[0-9]+|;");

  private void next() throws Fault {
    while (at < text.length() && text.charAt(at) == ' ') {
      at++;
    }
    start = at;
    if (at == text.length()) {
      token = "";
      return;
    }
    Matcher m = TOKEN.matcher(text).region(at, text.length());
    if (!m.lookingAt()) {
      throw new Fault(1, at);
    }
    token = m.group();
    if (Character.isDigit(token.charAt(0)) && token.length() > 3) {
      throw new Fault(1, at);
    }
    at = m.end();
  }

  private int number(int least, int most) throws Fault {
    next();
    if (token.isEmpty() || token.charAt(0) < '0' || token.charAt(0) > '9') {
      throw new Fault(2, start);
    }
    int v = Integer.parseInt(token);
    if (v < least || v > most) {
      throw new Fault(3, start);
    }
    return v;
  }

  private void oneLine(World w) throws Fault {
    if (w.size() == 6) {
      throw new Fault(5, start);
    }
    One one = new One();
    w.people.add(one);
    next();
    one.traits[0] = SORTS.indexOf(token);
    if (one.traits[0] < 0) {
      throw new Fault(2, start);
    }
    for (int what = 1; what <= 5; what++) {
      one.traits[what] = what == 5 ? number(1, 4) : number(0, 20);
    }
    Set<String> before = new HashSet<>();
    next();
    while (!token.equals(";")) {
      if (!List.of("keep", "kin", "angry", "sea").contains(token)) {
        throw new Fault(2, start);
      }
      if (!before.add(token)) {
        throw new Fault(4, start);
      }
      switch (token) {
        case "keep" -> one.traits[6] = number(0, 20);
        case "kin" -> one.kin = number(0, 5);
        case "angry" -> one.angers.put(number(0, 5), 0);
        default -> one.angers.put(THE_SEA, 0);
      }
      next();
    }
  }

  private void ruleLine(World w, Set<String> before) throws Fault {
    if (!before.add(token)) {
      throw new Fault(4, start);
    }
    switch (token) {
      case "law" -> w.law = number(1, 2);
      case "last" -> w.last = number(1, 9);
      default -> w.see = number(0, 10);
    }
    next();
    if (!token.equals(";")) {
      throw new Fault(2, start);
    }
  }

  long village() {
    StringBuilder signs = new StringBuilder();
    for (int b : tape) {
      signs.append((char) b);
    }
    tape.clear();
    text = signs.toString();
    at = 0;
    World w = new World();
    int lines = 0;
    try {
      Set<String> before = new HashSet<>();
      for (next(); !token.isEmpty(); next()) {
        if (token.equals("one")) {
          oneLine(w);
        } else if (List.of("law", "last", "see").contains(token)) {
          ruleLine(w, before);
        } else {
          throw new Fault(2, start);
        }
        lines++;
      }
      for (int p = 0; p < w.size(); p++) {
        One one = w.people.get(p);
        if (one.kin == p || one.kin >= w.size()) {
          throw new Fault(6, text.length());
        }
        for (int q : one.angers.keySet()) {
          if (q == p || q != THE_SEA && q >= w.size()) {
            throw new Fault(6, text.length());
          }
        }
      }
      for (One one : w.people) {
        if (one.angers.size() > w.law) {
          throw new Fault(7, text.length());
        }
      }
    } catch (Fault met) {
      fault = met.kind;
      return -10 - met.place;
    }
    fault = 0;
    world = w;
    Arrays.fill(images, null);
    return lines;
  }

  long fault() {
    return fault;
  }

  long rule(int what) {
    return what == 0 ? world.law : what == 1 ? world.last : what == 2 ? world.see : BAD;
  }

  private boolean is(int p) {
    return p >= 0 && p < world.size();
  }

  private One of(int p) {
    return world.people.get(p);
  }

  private static int bitsOf(Iterable<Integer> some) {
    int bits = 0;
    for (int r : some) {
      bits += 1 << r;
    }
    return bits;
  }

  long one(int p, int what) {
    if (!is(p) || what < 0 || what > 10) {
      return BAD;
    }
    if (what < 7) {
      return of(p).traits[what];
    }
    return switch (what) {
      case 7 -> of(p).kin;
      case 8 -> bitsOf(of(p).angers.keySet());
      case 9 -> world.free(p) ? 1 : 0;
      default -> world.cost(p);
    };
  }

  long set(int p, int what, int v) {
    if (!is(p) || what < 0 || what > 6) {
      return BAD;
    }
    if (v < (what == 5 ? 1 : 0) || v > (what == 5 || what == 0 ? 4 : 20)) {
      return BAD;
    }
    int was = of(p).traits[what];
    of(p).traits[what] = v;
    return was;
  }

  long old(int r, int p) {
    if (!is(r) || !is(p) || r == p) {
      return BAD;
    }
    return of(r).angers.getOrDefault(p, (int) NONE);
  }

  long got(int p) {
    return is(p) ? of(p).got : FAR;
  }

  long point(int r, int p) {
    if (!is(r) || !(is(p) || p == THE_SEA) || r == p) {
      return BAD;
    }
    if (of(r).angers.containsKey(p)) {
      return STATE;
    }
    if (of(r).angers.size() == world.law) {
      return FULL;
    }
    of(r).angers.put(p, 0);
    return of(r).angers.size();
  }

  long rest(int r, int p) {
    if (!is(r) || !(is(p) || p == THE_SEA) || r == p) {
      return BAD;
    }
    return of(r).angers.remove(p) == null ? NONE : of(r).angers.size();
  }

  // ---- wrongs

  private boolean two(int p, int q) {
    return is(p) && is(q) && p != q;
  }

  long would(int p, int q) {
    return two(p, q) ? bitsOf(world.would(p, q, world::free)) : BAD;
  }

  long worth(int p, int q, int what) {
    if (!two(p, q) || what < 0 || what > 1) {
      return FAR;
    }
    return what == 0 ? world.worth(p, q, world::freeAsSeen) : world.worth(p, q, world::free);
  }

  long whom(int p) {
    return is(p) ? world.whom(p, world::freeAsSeen) : BAD;
  }

  long wrong(int p, int q) {
    if (!two(p, q)) {
      return FAR;
    }
    int worth = world.worth(p, q, world::free);
    world.wrong(p, q);
    return worth;
  }

  // ---- weeks

  long go(int n) {
    if (n < 1 || n > 99) {
      return BAD;
    }
    int harm = 0;
    for (int i = 0; i < n; i++) {
      harm += world.passWeek();
    }
    return harm;
  }

  long now(int what) {
    switch (what) {
      case 0: return world.week;
      case 1: return world.harmDone;
      case 2: return world.wrongs;
      case 3: return freeBits(world);
      case 4: return world.open().isEmpty() ? 1 : 0;
      case 5: return world.people.stream().mapToInt(one -> one.angers.size()).sum();
      default: return BAD;
    }
  }

  private static long freeBits(World w) {
    long bits = 0;
    for (int r = 0; r < w.size(); r++) {
      bits += w.free(r) ? 1 << r : 0;
    }
    return bits;
  }

  private static long harmIn(World w, int n) {
    long harm = 0;
    for (int i = 0; i < n; i++) {
      harm += w.passWeek();
    }
    return harm;
  }

  long run(int n, int what) {
    if (n < 0 || n > 99 || what < 0 || what > 3 && (what < 10 || !is(what - 10))) {
      return FAR;
    }
    World w = world.copy();
    long harm = harmIn(w, n);
    switch (what) {
      case 0: return harm;
      case 1: return w.wrongs - world.wrongs;
      case 2: return bitsOf(w.latest);
      case 3: return freeBits(w);
      default: return w.people.get(what - 10).got - of(what - 10).got;
    }
  }

  long peace() {
    World w = world.copy();
    for (int i = 0; i <= 98; i++) {
      w.passWeek();
      if (w.latest.isEmpty()) {
        return i;
      }
    }
    return NONE;
  }

  long again(int what) {
    if (what < 0 || what > 1) {
      return BAD;
    }
    World w = world.copy();
    List<Object> before = new ArrayList<>();
    before.add(w.state());
    for (int n = 1; n <= 99; n++) {
      w.passWeek();
      if (what == 0 ? before.get(0).equals(w.state()) : before.contains(w.state())) {
        return n;
      }
      before.add(w.state());
    }
    return NONE;
  }

  long two(int n) {
    if (n < 1 || n > 99) {
      return BAD;
    }
    if (world.law == 2) {
      return STATE;
    }
    World w = world.copy();
    w.law = 2;
    return harmIn(w, n) - harmIn(world.copy(), n) + 100000;
  }

  long were(int p, int sort, int n) {
    if (!is(p) || sort < 0 || sort > 4 || n < 1 || n > 99) {
      return BAD;
    }
    World w = world.copy();
    World other = world.copy();
    other.people.get(p).traits[0] = sort;
    harmIn(w, n);
    harmIn(other, n);
    return other.people.get(p).got - w.people.get(p).got + 100000;
  }

  // ---- nobody gains

  long open() {
    long bits = 0;
    for (int[] pair : world.open()) {
      bits += 1L << (6 * pair[0] + pair[1]);
    }
    return bits;
  }

  long fewest(int what) {
    if (what < 0 || what > 1) {
      return BAD;
    }
    for (int members = 0; members <= world.size(); members++) {
      for (int set = 0; set < 1 << world.size(); set++) {
        if (Integer.bitCount(set) == members && world.ready(set).open().isEmpty()) {
          return what == 0 ? members : set;
        }
      }
    }
    return NONE;
  }

  long always() {
    Set<Integer> who = new HashSet<>();
    for (int[] pair : world.ready(63).open()) {
      who.add(pair[1]);
    }
    return bitsOf(who);
  }

  private static long bestOf(int[] openThen, int openNow, int what) {
    int best = -1;
    for (int i = openThen.length - 1; i >= 0; i--) {
      if (openThen[i] < openNow && (best < 0 || openThen[i] <= openThen[best])) {
        best = i;
      }
    }
    return best < 0 ? NONE : what == 0 ? best : openNow - openThen[best];
  }

  long where(int what) {
    if (what < 0 || what > 1) {
      return BAD;
    }
    int[] then = new int[world.size()];
    for (int r = 0; r < then.length; r++) {
      World w = world.copy();
      if (!w.free(r)) {
        w.people.get(r).angers.clear();
      }
      then[r] = w.open().size();
    }
    return bestOf(then, world.open().size(), what);
  }

  long hire(int h, int what) {
    if (h < 0 || h > 99 || what < 0 || what > 1) {
      return BAD;
    }
    int[] then = new int[world.size()];
    for (int q = 0; q < then.length; q++) {
      then[q] = world.hired(h, q).open().size();
    }
    return bestOf(then, world.open().size(), what);
  }

  long price(int q) {
    if (!is(q)) {
      return BAD;
    }
    for (int h = 0; h <= 99; h++) {
      if (world.hired(h, q).open().stream().noneMatch(pair -> pair[1] == q)) {
        return h;
      }
    }
    return NONE;
  }

  long ring(int what) {
    if (what < 0 || what > 2) {
      return BAD;
    }
    List<List<Integer>> found = new ArrayList<>();
    for (int p = 0; p < world.size(); p++) {
      walk(new ArrayList<>(List.of(p)), found);
    }
    int shortest = found.stream().mapToInt(List::size).min().orElse((int) NONE);
    switch (what) {
      case 0: return shortest;
      case 1: return found.stream().mapToInt(List::size).max().orElse((int) NONE);
      default: return found.stream().filter(r -> r.size() == shortest).mapToInt(Model::bitsOf).min().orElse((int) NONE);
    }
  }

  private void walk(List<Integer> way, List<List<Integer>> found) {
    for (int p : of(way.get(way.size() - 1)).angers.keySet()) {
      if (p == way.get(0)) {
        found.add(List.copyOf(way));
      } else if (p != THE_SEA && !way.contains(p)) {
        way.add(p);
        walk(way, found);
        way.remove(way.size() - 1);
      }
    }
  }

  // ---- by chances

  private long[] weights(int p) {
    long[] weights = new long[world.size()];
    weigh(p, 0, 1L, new boolean[world.size()], weights);
    return weights;
  }

  private void weigh(int p, int r, long weight, boolean[] sight, long[] weights) {
    if (r == world.size()) {
      int q = world.whom(p, i -> sight[i]);
      if (q >= 0) {
        weights[q] += weight;
      }
    } else if (r == p) {
      weigh(p, r + 1, weight, sight, weights);
    } else {
      sight[r] = world.freeAsSeen(r);
      weigh(p, r + 1, weight * world.see, sight, weights);
      sight[r] = !world.freeAsSeen(r);
      weigh(p, r + 1, weight * (10 - world.see), sight, weights);
    }
  }

  private long lowest(long sum, int what) {
    BigInteger above = BigInteger.valueOf(sum);
    BigInteger below = BigInteger.TEN.pow(world.size() - 1);
    BigInteger shared = above.gcd(below);
    return (what == 0 ? above : below).divide(shared).longValueExact();
  }

  long odds(int p, int q, int what) {
    if (!two(p, q) || what < 0 || what > 1) {
      return BAD;
    }
    return lowest(weights(p)[q], what);
  }

  long mean(int p, int what) {
    if (!is(p) || what < 0 || what > 1) {
      return FAR;
    }
    long sum = 0;
    long[] weights = weights(p);
    for (int q = 0; q < weights.length; q++) {
      if (q != p) {
        sum += weights[q] * world.worth(p, q, world::free);
      }
    }
    return lowest(sum, what);
  }

  long likeliest(int p) {
    if (!is(p)) {
      return BAD;
    }
    long[] weights = weights(p);
    long most = Arrays.stream(weights).max().orElse(0);
    for (int q = 0; q < weights.length; q++) {
      if (most > 0 && weights[q] == most) {
        return q;
      }
    }
    return NONE;
  }

  // ---- images, sheets

  long keep(int k) {
    if (k < 0 || k > 1) {
      return BAD;
    }
    long was = images[k] == null ? 0 : 1;
    images[k] = world.copy();
    return was;
  }

  long back(int k) {
    if (k < 0 || k > 1) {
      return BAD;
    }
    if (images[k] == null) {
      return STATE;
    }
    world = images[k].copy();
    return world.week;
  }

  long sheet(int k, int lane, int n) {
    if (k < 0 || k > 3 || lane < 0 || lane > 2 || n > 40) {
      return BAD;
    }
    try {
      sheets[k] = lane == 0 ? new byte[n] : lane == 1 ? new short[n] : new int[n];
      return 1;
    } catch (NegativeArraySizeException e) {
      return -14;
    }
  }

  long lay(int k, int i, int v) {
    if (k < 0 || k > 3) {
      return BAD;
    }
    try {
      if (sheets[k] instanceof byte[] row) {
        row[i] = (byte) v;
      } else if (sheets[k] instanceof short[] row) {
        row[i] = (short) v;
      } else {
        ((int[]) sheets[k])[i] = v;
      }
      return 1;
    } catch (NullPointerException e) {
      return -11;
    } catch (ArrayIndexOutOfBoundsException e) {
      return -12;
    }
  }

  private int cell(int k, int lane, int i) {
    switch (lane) {
      case 0: return ((byte[]) sheets[k])[i];
      case 1: return ((short[]) sheets[k])[i];
      default: return ((int[]) sheets[k])[i];
    }
  }

  long read(int k, int lane, int f, int n) {
    if (k < 0 || k > 3 || lane < 0 || lane > 2 || n < 0 || n > 12) {
      return BAD;
    }
    World before = world.copy();
    int came = 0;
    int met = 0;
    try {
      for (int i = 0; i < n; i++) {
        int who = cell(k, lane, Math.addExact(f, 2 * i));
        int whom = cell(k, lane, Math.addExact(f, 2 * i + 1));
        if (point(who, whom) < 0) {
          world = before;
          return -20 - i;
        }
        came++;
      }
    } catch (NullPointerException e) {
      met = 1;
    } catch (ArrayIndexOutOfBoundsException | ArithmeticException e) {
      met = 2;
    } catch (ClassCastException e) {
      met = 3;
    }
    torn = met;
    return came;
  }

  long torn() {
    return torn;
  }

  long count(int what) {
    switch (what) {
      case 0: return world.size();
      case 1: return world.people.stream().filter(one -> one.sort() == 2).count();
      case 2: return (images[0] == null ? 0 : 1) + (images[1] == null ? 0 : 1);
      case 3: return tape.size();
      case 4: return sheets[0] == null ? NONE : java.lang.reflect.Array.getLength(sheets[0]);
      default: return BAD;
    }
  }
}
