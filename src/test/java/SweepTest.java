import java.lang.reflect.InvocationTargetException;
import java.lang.reflect.Method;
import java.util.ArrayList;
import java.util.Arrays;
import java.util.LinkedHashMap;
import java.util.List;
import java.util.Map;

/**
 * Every call with every choice of arguments at, and right outside, their bounds, in many states, and texts
 * with every byte in every place: each answer, and what is left, is held against the model.
 */
public final class SweepTest {
  private static final int MIN = Integer.MIN_VALUE, MAX = Integer.MAX_VALUE;
  private static final Check c = new Check();
  private static final Map<String, Method> REAL = methods(StepRiders.class);
  private static final Map<String, Method> TOLD = methods(Model.class);

  private final List<Object[]> history = new ArrayList<>();
  private StepRiders x;
  private Model m;
  private int calls;

  private static Map<String, Method> methods(Class<?> k) {
    Map<String, Method> all = new LinkedHashMap<>();
    for (Method method : k.getDeclaredMethods()) if (method.getReturnType() == int.class) all.put(method.getName(), method);
    return all;
  }

  private static int call(Object on, Map<String, Method> methods, String name, int[] args) {
    Object[] values = new Object[args.length];
    for (int i = 0; i < args.length; i++) values[i] = args[i];
    try {
      return (Integer) methods.get(name).invoke(on, values);
    } catch (InvocationTargetException e) {
      throw new IllegalStateException(name + Arrays.toString(args), e.getCause());
    } catch (IllegalAccessException e) {
      throw new IllegalStateException(name, e);
    }
  }

  private SweepTest did(String name, int... args) {
    history.add(new Object[] {name, args});
    return this;
  }

  private SweepTest read(String text) {
    for (int i = 0; i < text.length(); i++) did("feed", text.charAt(i));
    return did("stair");
  }

  private void again() {
    x = new StepRiders();
    m = new Model();
    calls = history.size();
    for (Object[] one : history) {
      call(x, REAL, (String) one[0], (int[]) one[1]);
      call(m, TOLD, (String) one[0], (int[]) one[1]);
    }
  }

  private static int[] bounds(int least, int most, int... more) {
    int[] all = Arrays.copyOf(new int[] {MIN, least - 1, least, most, most + 1, MAX}, 6 + more.length);
    System.arraycopy(more, 0, all, 6, more.length);
    return Arrays.stream(all).distinct().toArray();
  }

  /** The arguments of each call, by the document. */
  private Map<String, int[][]> arguments() {
    int[] rider = bounds(0, Math.max(0, m.count(1) - 1), 1), row = bounds(0, 7, 1, 2), flag = bounds(0, 1);
    int[] place = bounds(0, 39, 2, 3, 28, 29), time = bounds(0, 60), any = {MIN, -32769, -129, -1, 0, 128, 32768, MAX};
    Map<String, int[][]> all = new LinkedHashMap<>();
    all.put("row", new int[][] {row, bounds(0, 2, 1), bounds(0, 40)});
    all.put("set", new int[][] {row, place, any});
    all.put("copy", new int[][] {row, place, row, {MIN, -1, 0, 2, 3, 40, MAX}, {MIN, -1, 0, 1, 3, 40, 41, MAX}});
    all.put("drop", new int[][] {row});
    all.put("feed", new int[][] {bounds(0, 255, 'm')});
    all.put("stair", new int[][] {});
    all.put("fault", new int[][] {});
    all.put("ticks", new int[][] {bounds(1, 24)});
    all.put("speed", new int[][] {bounds(0, 2, 1)});
    for (String name : new String[] {"cross", "take", "off", "kind"}) all.put(name, new int[][] {rider});
    all.put("again", new int[][] {rider, flag});
    all.put("undo", new int[][] {});
    all.put("rider", new int[][] {rider, bounds(0, 3, 1, 2)});
    all.put("step", new int[][] {bounds(0, Math.max(0, m.count(2) - 1), 1, 2), flag});
    all.put("ahead", new int[][] {rider, time});
    all.put("later", new int[][] {time, flag});
    all.put("clear", new int[][] {});
    for (String name : new String[] {"sorting", "taken", "image", "restore"}) all.put(name, new int[][] {flag});
    all.put("pace", new int[][] {rider, bounds(1, 6), bounds(-1, 5, 0)});
    all.put("fits", new int[][] {rider, row, place, bounds(1, 12), bounds(0, 3, 1, 2)});
    all.put("absent", new int[][] {rider, time, bounds(0, 10, 3), flag});
    all.put("drawn", new int[][] {time, bounds(1, 999999), flag});
    all.put("as", new int[][] {rider, bounds(0, 5, 1, 2, 3, 4)});
    all.put("ask", new int[][] {rider, flag});
    all.put("trace", new int[][] {bounds(0, 15, 1, 2, 3, 4, 5, 6)});
    all.put("count", new int[][] {bounds(0, 9, 1, 2, 3, 4, 5, 6, 7, 8)});
    all.put("status", new int[][] {});
    return all;
  }

  private void sweep(String state) {
    again();
    Map<String, int[][]> all = arguments();
    c.due(state + ": calls of the face", all.size(), REAL.values().stream().filter(k -> java.lang.reflect.Modifier.isPublic(k.getModifiers())).count());
    for (String name : all.keySet()) {
      int[][] choices = all.get(name);
      int[] at = new int[choices.length];
      boolean more = true;
      while (more) {
        int[] args = new int[at.length];
        for (int i = 0; i < at.length; i++) args[i] = choices[i][at[i]];
        one(state, name, args);
        more = next(at, choices);
      }
      again();
    }
  }

  private static boolean next(int[] at, int[][] choices) {
    for (int i = 0; i < at.length; i++) {
      if (++at[i] < choices[i].length) return true;
      at[i] = 0;
    }
    return false;
  }

  private void one(String state, String name, int[] args) {
    if (calls > 490) again();
    int got = call(x, REAL, name, args), want = call(m, TOLD, name, args);
    String told = state + ": " + name + Arrays.toString(args);
    c.due(told, got, want);
    c.due(told + ", status()", x.status(), m.status());
    calls += 2;
    boolean changed = false;
    for (int k : new int[] {0, 3, 8, 9}) {
      c.due(told + ", count(" + k + ")", x.count(k), m.count(k));
      calls++;
    }
    if (want > -1000000) changed = "row set copy drop feed stair ticks speed cross take again undo image restore ask".contains(name);
    if (changed) {
      for (int r = 0; r < m.count(1); r++) {
        c.due(told + ", rider(" + r + ", 0)", x.rider(r, 0), m.rider(r, 0));
        c.due(told + ", rider(" + r + ", 1)", x.rider(r, 1), m.rider(r, 1));
      }
      again();
    }
  }

  /** Rows, with a place for each width, a full one, an empty one; the rest is missing. */
  private SweepTest rows() {
    did("row", 0, 0, 3).did("row", 1, 2, 40).did("row", 2, 0, 0);
    for (int i = 0; i < 12; i++) did("set", 1, 28 + i, i < 2 ? i : 99);
    return did("set", 0, 0, 1).did("set", 0, 1, -1);
  }

  private static SweepTest state() {
    return new SweepTest();
  }

  private static void states() {
    state().sweep("new");
    state().rows().sweep("rows alone");
    state().rows().read("m4,1;s0;").sweep("one rider");
    state().rows().read("m12,2;s0;w1;r0;t1;c0;s1;c1;").sweep("seven in the queue");
    state().rows().read("m12,1;c0;w1;r0;t1;s0;r1;c1;").did("ticks", 5).did("cross", 0).did("image", 1).sweep("some on");
    state().rows().read("m6,1;w0;s1;t0;c0;r1;").did("ticks", 24).did("again", 1, 0).did("again", 3, 1).did("again", 4, 1)
        .did("ticks", 2).did("image", 0).did("speed", 0).did("ask", 3, 1).sweep("on, off and in the queue, at rest");
    state().rows().read("m4,0;t0;s0;s1;").did("ticks", 3).sweep("held up");
    state().rows().read("m5,2;w0;r1;").did("ticks", 24).sweep("all off");
    SweepTest full = state();
    for (int i = 0; i < 90; i++) full.did("feed", 'm');
    full.sweep("a full tape");
    SweepTest eight = state().read("m7,1;s0;s1;");
    for (int r = 0; r < 8; r++) eight.did("row", r, r % 3, 40 - r);
    eight.did("ticks", 24).did("ticks", 1).did("undo").sweep("eight rows, an undone act");
  }

  // ---- texts

  private static void text(String text) {
    StepRiders x = new StepRiders();
    Model m = new Model();
    for (int i = 0; i < text.length(); i++) c.due("feed", x.feed(text.charAt(i)), m.feed(text.charAt(i)));
    c.due("'" + text + "' stair()", x.stair(), m.stair());
    c.due("'" + text + "' fault()", x.fault(), m.fault());
    for (int k = 1; k < 10; k++) c.due("'" + text + "' count(" + k + ")", x.count(k), m.count(k));
    for (int r = 0; r < 7; r++) c.due("'" + text + "' rider " + r, x.kind(r) * 2L + x.rider(r, 1), m.kind(r) * 2L + m.rider(r, 1));
  }

  private static void texts() {
    for (String base : new String[] {"m12,02;s1;c00;", "m4,0;r0;", "m9,1;s0;s1;w0;w1;r0;r1;t0;", "m9,1;s0;s1;w0;w1;r0;r1;t0;c1;"})
      for (int at = 0; at <= base.length(); at++) {
        text(base.substring(0, at));
        text(base.substring(at));
        for (int b = 0; b < 256; b++) {
          text(base.substring(0, at) + (char) b + base.substring(at));
          if (at < base.length()) text(base.substring(0, at) + (char) b + base.substring(at + 1));
        }
        if (at < base.length()) text(base.substring(0, at) + base.substring(at + 1));
        for (String run : new String[] {"00", "11", "000", "1111", ";;", "s0;", "m4,"}) text(base.substring(0, at) + run + base.substring(at));
      }
  }

  public static void main(String[] args) {
    states();
    texts();
    c.end("SweepTest");
  }
}
