import java.lang.management.ManagementFactory;
import java.lang.reflect.Method;
import java.lang.reflect.Modifier;
import java.util.ArrayList;
import java.util.List;
import java.util.Random;

/**
 * LANGUAGE.md, rules 7 and 12: no call throws for any arguments in any state, what is refused changes
 * nothing that count() tells, and no call makes objects.
 */
public final class WildTest {
  private static final int[] NUMBERS = {0, 1, 2, 3, 4, 5, 6, 7, 8, 12, 13, 24, 39, 40, 41, 60, 61, 90, 99, 255, 256, 9999,
      -1, -2, -1000000, 999999, 1000000, Integer.MAX_VALUE, Integer.MAX_VALUE - 1, Integer.MIN_VALUE, Integer.MIN_VALUE + 1};
  private static final Check c = new Check();

  private static List<Method> calls() {
    List<Method> all = new ArrayList<>();
    for (Method m : StepRiders.class.getDeclaredMethods()) if (Modifier.isPublic(m.getModifiers())) all.add(m);
    all.sort((a, b) -> a.getName().compareTo(b.getName()));
    return all;
  }

  private static String counts(StepRiders x) {
    StringBuilder all = new StringBuilder(Check.places(x));
    for (int k = 0; k < 10; k++) all.append(' ').append(x.count(k));
    return all.toString();
  }

  private static void run(Random random, List<Method> calls) throws ReflectiveOperationException {
    StepRiders x = new StepRiders();
    if (random.nextInt(8) != 0) Check.read(x, random.nextBoolean() ? "m12,1;c0;w1;r0;t1;s0;r1;c1;" : "m4,0;w0;t0;");
    for (int i = 0; i < 480; i++) {
      Method m = calls.get(random.nextInt(calls.size()));
      Object[] args = new Object[m.getParameterCount()];
      StringBuilder name = new StringBuilder(m.getName());
      for (int k = 0; k < args.length; k++) {
        args[k] = random.nextInt(3) == 0 ? NUMBERS[random.nextInt(NUMBERS.length)] : random.nextInt(4);
        name.append(' ').append(args[k]);
      }
      String before = counts(x);
      int answer;
      try {
        answer = (Integer) m.invoke(x, args);
      } catch (java.lang.reflect.InvocationTargetException e) {
        c.so(name + " throws " + e.getCause(), false);
        return;
      }
      boolean refused = answer <= StepRiders.BAD && answer >= -1000015;
      c.so(name + " changes something though it is refused", !refused || before.equals(counts(x)));
    }
  }

  private static long use(StepRiders x) {
    long sum = Check.read(x, "m12,1;c0;w1;r0;t1;s0;r1;c1;");
    for (int r = 0; r < 7; r++) {
      sum += x.ticks(1) + x.sorting(1) + x.taken(0) + x.pace(r, 6, 2) + x.absent(r, 60, 3, 0) + x.drawn(60, 7 + r, 0);
      sum += x.row(r, 2, 12) + x.set(r, 3, 5) + x.copy(r, 0, r, 1, 3) + x.off(r) + x.clear() + x.ahead(r, 60) + x.later(9, 1);
      for (int what = 0; what < 4; what++) sum += x.fits(r, r, 0, 12, what) + x.rider(r, what);
      sum += x.image(r % 2) + x.restore(r % 2) + x.ask(r, 0) + x.ask(r, 1) + x.trace(1) + x.as(r, 4) + x.kind(r) + x.status();
      sum += x.take(r) + x.again(r, 1) + x.cross(r) + x.speed(r % 3) + x.undo() + x.step(r, 0) + x.count(5) + x.fault() + x.drop(r);
    }
    return sum;
  }

  private static void makesNothing() {
    java.lang.management.ThreadMXBean bean = ManagementFactory.getThreadMXBean();
    if (!(bean instanceof com.sun.management.ThreadMXBean)) return;
    com.sun.management.ThreadMXBean threads = (com.sun.management.ThreadMXBean) bean;
    long id = Thread.currentThread().getId();
    long least = Long.MAX_VALUE;
    long made = Long.MAX_VALUE;
    for (int i = 0; i < 5; i++) {
      long ahead = threads.getThreadAllocatedBytes(id);
      StepRiders x = new StepRiders();
      long between = threads.getThreadAllocatedBytes(id);
      use(x);
      least = Math.min(least, threads.getThreadAllocatedBytes(id) - between);
      made = Math.min(made, between - ahead);
    }
    System.out.println("bytes of a new object: " + made + ", of its calls: " + least);
    c.so("a run of calls makes " + least + " bytes", least < 1000);
    c.so("a new object has " + made + " bytes", made < 20000);
  }

  public static void main(String[] args) throws ReflectiveOperationException {
    Random random = new Random(17);
    List<Method> calls = calls();
    for (int i = 0; i < 300; i++) run(random, calls);
    makesNothing();
    c.end("WildTest");
  }
}
