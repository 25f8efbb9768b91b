import java.lang.management.ManagementFactory;
import java.lang.reflect.Method;
import java.lang.reflect.Modifier;
import java.util.ArrayList;
import java.util.Comparator;
import java.util.List;
import java.util.Random;

/** No call throws, whatever it is given; no call makes an object. */
public final class RoomTest {
  private static final Check CHECK = new Check("RoomTest");
  private static final int[] NUMBERS = {0, 1, 2, 3, 4, 5, 6, 7, 8, 9, 10, 11, 12, 15, 20, 39, 40, 41, 98, 99, 100,
    -1, -2, 64, 127, 128, 255, 256, 313, 320, 321, 65536, Integer.MAX_VALUE, Integer.MAX_VALUE - 1,
    Integer.MIN_VALUE, Integer.MIN_VALUE + 1};
  private static final String VILLAGE = "law 2;see 6;one quick 9 1 1 2 4 angry 1;one keeper 8 5 2 3 4 keep 5;"
      + "one guard 7 2 5 1 1 kin 1;one feign 6 1 3 2 4 sea;one calm 2 3 4 2 4;one guard 3 4 1 0 2 kin 3;";

  private static List<Method> calls() {
    List<Method> list = new ArrayList<>();
    for (Method method : OneAnger.class.getDeclaredMethods()) {
      if (Modifier.isPublic(method.getModifiers())) {
        list.add(method);
      }
    }
    list.sort(Comparator.comparing(Method::getName));
    return list;
  }

  private static Object[] someNumbers(Method method, Random random) {
    Object[] values = new Object[method.getParameterCount()];
    for (int i = 0; i < values.length; i++) {
      int v = NUMBERS[random.nextInt(random.nextBoolean() ? 7 : NUMBERS.length)];
      if (method.getParameterTypes()[i] == long.class) {
        values[i] = (long) v * random.nextLong();
      } else {
        values[i] = v;
      }
    }
    return values;
  }

  private static int callAll(OneAnger x, List<Method> calls, Random random) {
    int thrown = 0;
    for (int i = 0; i < 512; i++) {
      Method method = calls.get(random.nextInt(calls.size()));
      Object[] values = someNumbers(method, random);
      try {
        method.invoke(x, values);
      } catch (ReflectiveOperationException e) {
        thrown++;
        System.out.println(method.getName() + " threw " + e.getCause());
      }
    }
    return thrown;
  }

  private static void dearestCalls(OneAnger x) {
    Check.tell(x, VILLAGE);
    x.village();
    Check.tell(x, VILLAGE);
    for (int n = 0; n < 3; n++) {
      x.go(99);
      x.run(99, 10);
      x.peace();
      x.again(1);
      x.two(99);
      x.were(0, 4, 99);
      x.fewest(1);
      x.always();
      x.where(0);
      x.hire(5, 0);
      x.price(0);
      x.ring(1);
      x.odds(0, 1, 0);
      x.mean(0, 1);
      x.likeliest(0);
      x.keep(0);
      x.back(0);
      x.sheet(0, n, 40);
      x.lay(0, 1, 3);
      x.read(0, n, 0, 12);
    }
  }

  private static long bytesOf(OneAnger x) {
    com.sun.management.ThreadMXBean threads =
        (com.sun.management.ThreadMXBean) ManagementFactory.getThreadMXBean();
    long id = Thread.currentThread().getId();
    long before = threads.getThreadAllocatedBytes(id);
    long between = threads.getThreadAllocatedBytes(id);
    dearestCalls(x);
    return threads.getThreadAllocatedBytes(id) - between - (between - before);
  }

  public static void main(String[] args) {
    List<Method> calls = calls();
    CHECK.due("how many calls there are", 39, calls.size());
    Random random = new Random(5);
    for (int i = 0; i < 400; i++) {
      OneAnger x = i % 4 == 0 ? new OneAnger() : Check.told(VILLAGE);
      CHECK.due("calls that threw", 0, callAll(x, calls, random));
    }
    OneAnger x = new OneAnger();
    bytesOf(x);
    CHECK.due("bytes that the dearest calls made", 0, bytesOf(x));
    CHECK.end();
  }
}
