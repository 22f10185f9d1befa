import java.lang.reflect.InvocationTargetException;
import java.lang.reflect.Method;
import java.lang.reflect.Modifier;
import java.util.Arrays;
import java.util.Comparator;
import java.util.List;
import java.util.stream.Collectors;

/** What every test of the project shares: it tells each answer that is not as due, and fails at the end. */
final class Check {
  static final int NONE = -1000000, BAD = -1000001, STATE = -1000002, FULL = -1000003;
  static final int NULL = -1000011, PLACE = -1000012, KIND = -1000013, SIZE = -1000014, STORE = -1000015;
  static final int MIN = Integer.MIN_VALUE, MAX = Integer.MAX_VALUE;

  private int wrong = 0;
  private int asked = 0;
  private String test = "";

  void due(String call, long got, long want) {
    asked++;
    if (got != want) tell(call + " answered " + got + ", due is " + want);
  }

  void so(String what, boolean holds) {
    due(what, holds ? 1 : 0, 1);
  }

  void same(String what, String got, String want) {
    asked++;
    if (!got.equals(want)) tell(what + ": " + got + ", due is " + want);
  }

  private void tell(String what) {
    wrong++;
    if (wrong <= 40) System.out.println(test + what);
  }

  /** Each of these calls is refused so; their arguments are told one call behind the other. */
  void all(StepRiders x, String call, int want, int[]... args) {
    for (int[] a : args) due(call + Arrays.toString(a), call(x, call, a), want);
  }

  void end(String name) {
    System.out.println(name + ": " + (asked - wrong) + " answers as due, " + wrong + " not");
    if (wrong != 0 || asked == 0) System.exit(1);
  }

  /** The tests of a class that say which words of the document they hold. */
  static List<Method> testsOf(Class<?> tests) {
    return Arrays.stream(tests.getDeclaredMethods())
        .filter(m -> Modifier.isStatic(m.getModifiers()) && m.isAnnotationPresent(Holds.class))
        .sorted(Comparator.comparing(Method::getName)).collect(Collectors.toList());
  }

  /** Runs them all, so that none is forgotten. */
  void runAll(Class<?> tests) {
    for (Method m : testsOf(tests)) {
      test = m.getName() + ": ";
      int before = asked;
      try {
        m.invoke(null);
      } catch (InvocationTargetException e) {
        so("throws " + e.getCause(), false);
      } catch (IllegalAccessException e) {
        so("cannot be run", false);
      }
      so("looks at something", asked > before);
    }
    end(tests.getName());
  }

  /** A call by its name. */
  static int call(StepRiders x, String name, int... args) {
    Class<?>[] types = new Class<?>[args.length];
    Object[] values = new Object[args.length];
    for (int i = 0; i < args.length; i++) {
      types[i] = int.class;
      values[i] = args[i];
    }
    try {
      return (Integer) StepRiders.class.getMethod(name, types).invoke(x, values);
    } catch (ReflectiveOperationException e) {
      throw new IllegalStateException(name + Arrays.toString(args), e);
    }
  }

  /** The tape is fed a text; the answers of feed are looked at elsewhere. */
  static void feed(StepRiders x, String text) {
    for (int i = 0; i < text.length(); i++) x.feed(text.charAt(i));
  }

  static int read(StepRiders x, String text) {
    feed(x, text);
    return x.stair();
  }

  /** A new object with the stair of a text. */
  static StepRiders of(String text) {
    StepRiders x = new StepRiders();
    int riders = read(x, text);
    if (riders < 1) throw new IllegalStateException(text + " is no stair");
    return x;
  }

  /** Row r is made of ints with these items. */
  static void row(StepRiders x, int r, int... items) {
    x.row(r, 2, items.length);
    for (int i = 0; i < items.length; i++) x.set(r, i, items[i]);
  }

  /**
   * The items of a row, each 0 to 11, as a text ("." for any other); it puts a stair in place of the one
   * there is. One who stands on a stair that rests is where it starts, so STARTS tells the item.
   */
  static String items(StepRiders x, int row) {
    if (x.count(9) > 0) x.stair();
    read(x, "m12,0;s0;");
    x.ticks(1);
    StringBuilder all = new StringBuilder();
    for (int i = 0; i <= 40; i++) {
      int bits = x.fits(0, row, i, 1, 3);
      if (bits < 0) return all + (bits == NULL ? "missing" : "");
      all.append(i == 0 ? "" : " ").append(bits == 0 ? "." : "" + Integer.numberOfTrailingZeros(bits));
    }
    return all + " and more";
  }

  /** Where all riders are, one behind the other. */
  static String places(StepRiders x) {
    return ofAll(x, 0);
  }

  static String lanes(StepRiders x) {
    return ofAll(x, 1);
  }

  private static String ofAll(StepRiders x, int what) {
    StringBuilder all = new StringBuilder();
    int riders = x.count(1);
    for (int r = 0; r < riders; r++) all.append(r == 0 ? "" : " ").append(x.rider(r, what));
    return all.toString();
  }

  /** The places behind each tick, as told. */
  void course(StepRiders x, String... places) {
    for (int i = 0; i < places.length; i++) {
      x.ticks(1);
      places("behind " + (i + 1) + " ticks", x, places[i]);
    }
  }

  void places(String call, StepRiders x, String want) {
    same(call + ": the riders' places", places(x), want);
  }
}
