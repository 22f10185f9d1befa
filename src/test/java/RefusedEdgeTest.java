import java.util.Arrays;
import java.util.HashMap;
import java.util.Map;
import java.util.function.Supplier;

/**
 * What a refused call, and one that only looks, leaves as it is: everything. Two objects have the same
 * history, one of them with that call at its end; then all that calls can tell must be alike.
 */
public final class RefusedEdgeTest {
  private static final int BAD = Check.BAD, STATE = Check.STATE, FULL = Check.FULL, MIN = Check.MIN, MAX = Check.MAX;
  private static final Check c = new Check();
  private static final Map<Supplier<StepRiders>, String> WHOLES = new HashMap<>();

  /** Riders in the queue, on and off; more than 24 acts; an image; rows of all widths; a fault, a trace, a tape. */
  private static final Supplier<StepRiders> USED = () -> {
    StepRiders x = Check.of("m6,1;s0;w0;t1;c0;r1;s1;");
    x.row(0, 0, 3);
    x.set(0, 1, 7);
    x.row(1, 1, 2);
    x.set(1, 0, 4);
    x.row(2, 2, 2);
    x.set(2, 1, 9);
    x.ticks(24);
    x.image(0);
    x.again(0, 1);
    x.again(3, 1);
    x.again(4, 0);
    x.again(5, 1);
    x.ticks(2);
    x.cross(5);
    Check.read(x, "m3");
    Check.feed(x, "m7,2;t0;c");
    x.ask(3, 1);
    x.set(0, 3, 0);
    return x;
  };

  private static final Supplier<StepRiders> NEW = StepRiders::new;

  private static final Supplier<StepRiders> BESIDE = () -> {
    StepRiders x = Check.of("m4,0;s0;s1;");
    x.ticks(2);
    return x;
  };

  /** The tape is full. */
  private static final Supplier<StepRiders> LONG = () -> {
    StepRiders x = Check.of("m4,1;s0;");
    for (int i = 0; i < 90; i++) x.feed(i == 0 ? 'm' : '4');
    return x;
  };

  private static void leaves(Supplier<StepRiders> history, String what, String call, int... args) {
    String before = WHOLES.computeIfAbsent(history, Whole::of);
    String after = Whole.of(() -> {
      StepRiders x = history.get();
      Check.call(x, call, args);
      return x;
    });
    c.same(call + Arrays.toString(args) + what, after, before);
  }

  private static void refused(Supplier<StepRiders> history, int want, String call, int[]... allArgs) {
    for (int[] args : allArgs) {
      StepRiders x = history.get();
      int before = x.status();
      c.due(call + Arrays.toString(args), Check.call(x, call, args), want);
      int finding = -1000010 - want;
      c.due("status() behind " + call + Arrays.toString(args), x.status(), finding > 0 ? finding : before);
      leaves(history, " is refused and changes something", call, args);
    }
  }

  /** The places of an argument right outside its bounds, and farthest off. */
  private static void outside(Supplier<StepRiders> history, String call, int[] fine, int at, int least, int most) {
    for (int v : new int[] {least - 1, most + 1, MIN, MAX}) {
      int[] args = fine.clone();
      args[at] = v;
      refused(history, BAD, call, args);
    }
    for (int v : new int[] {least, most}) {
      int[] args = fine.clone();
      args[at] = v;
      c.so(call + Arrays.toString(args) + " is not BAD", Check.call(history.get(), call, args) != BAD);
    }
  }

  private static int[] a(int... args) { return args; }

  @Holds({"Refusals are answers, the first of these that fits, but as told: BAD (a number is not as told; there is no such thing), STATE (as told), FULL (as told),"})
  static void refusedRows() {
    outside(USED, "row", a(0, 0, 1), 0, 0, 7);
    outside(USED, "row", a(0, 0, 1), 1, 0, 2);
    refused(USED, BAD, "row", a(0, 0, 41), a(0, 0, MAX), a(8, 0, -1), a(0, 3, -1));
    refused(USED, Check.SIZE, "row", a(0, 1, -1), a(7, 2, MIN), a(3, 0, -1));
    outside(USED, "set", a(0, 0, 1), 0, 0, 7);
    refused(USED, Check.NULL, "set", a(3, 0, 1), a(7, -1, 1));
    refused(USED, Check.PLACE, "set", a(0, 3, 1), a(0, -1, 1), a(1, 2, 1), a(2, MAX, 1), a(2, MIN, 1));
    outside(USED, "copy", a(0, 0, 0, 0, 1), 0, 0, 7);
    outside(USED, "copy", a(0, 0, 0, 0, 1), 2, 0, 7);
    refused(USED, Check.NULL, "copy", a(3, 0, 0, 0, 1), a(0, 0, 3, 0, 1), a(3, -1, 4, -1, -1));
    refused(USED, Check.STORE, "copy", a(0, 0, 1, 0, 1), a(2, 0, 0, 0, 0), a(1, 9, 2, 9, 9));
    refused(USED, Check.PLACE, "copy", a(0, 0, 0, 0, 4), a(0, 1, 0, 0, 3), a(0, 0, 0, 1, 3), a(0, 0, 0, 1, -1), a(0, -1, 0, 0, 1),
        a(0, 0, 0, -1, 1), a(0, 1, 0, 0, MAX), a(0, MAX, 0, 0, 1), a(0, 4, 0, 0, 0));
    outside(USED, "drop", a(0), 0, 0, 7);
    refused(USED, Check.NULL, "drop", a(3), a(7));
  }

  @Holds({"What is refused, or found, changes nothing but status()."})
  static void refusedTapeAndActs() {
    outside(USED, "feed", a(0), 0, 0, 255);
    refused(LONG, FULL, "feed", a(0), a('m'), a(255));
    refused(LONG, BAD, "feed", a(-1), a(256));
    outside(USED, "ticks", a(1), 0, 1, 24);
    outside(USED, "speed", a(0), 0, 0, 2);
    outside(USED, "cross", a(0), 0, 0, 5);
    refused(USED, STATE, "cross", a(1), a(2));
    outside(USED, "take", a(0), 0, 0, 5);
    refused(USED, STATE, "take", a(1), a(2));
    outside(USED, "again", a(1, 0), 0, 0, 5);
    outside(USED, "again", a(1, 0), 1, 0, 1);
    refused(USED, STATE, "again", a(0, 0), a(3, 1), a(5, 1));
    refused(USED, BAD, "again", a(0, 2), a(5, -1));
    outside(USED, "rider", a(0, 0), 0, 0, 5);
    outside(USED, "rider", a(0, 0), 1, 0, 3);
    outside(USED, "step", a(0, 0), 0, 0, 5);
    outside(USED, "step", a(0, 0), 1, 0, 1);
    refused(BESIDE, STATE, "cross", a(0), a(1));
  }

  @Holds({"FULL: beyond TICK 9999."})
  static void refusedBeyondTheLastTick() {
    for (int n : a(2, 3, 24, 0, 25)) {
      StepRiders x = Check.of("m4,1;s0;w0;");
      x.ticks(14);
      for (int i = 0; i < 416; i++) x.ticks(24);
      x.again(1, 0);
      c.due("ticks(" + n + ") at TICK 9998", x.ticks(n), n == 0 || n == 25 ? BAD : FULL);
      c.due("TICK", x.count(3), 9998);
      c.places("nobody has come", x, "99 -1");
      c.due("undo()", x.undo(), 23);
      c.places("as before", x, "99 99");
      c.due("TICK", x.count(3), 9998);
      c.due("undo()", x.undo(), 22);
      c.due("TICK", x.count(3), 9997);
    }
  }

  @Holds({"BAD (a number is not as told; there is no such thing)"})
  static void refusedForetold() {
    outside(USED, "ahead", a(0, 0), 0, 0, 5);
    outside(USED, "ahead", a(0, 0), 1, 0, 60);
    outside(USED, "later", a(0, 0), 0, 0, 60);
    outside(USED, "later", a(0, 0), 1, 0, 1);
    outside(USED, "off", a(0), 0, 0, 5);
    outside(USED, "sorting", a(0), 0, 0, 1);
    outside(USED, "taken", a(0), 0, 0, 1);
    outside(USED, "pace", a(0, 1, 0), 0, 0, 5);
    outside(USED, "pace", a(0, 1, 0), 1, 1, 6);
    refused(USED, BAD, "pace", a(0, 1, -2), a(0, 6, MIN));
    outside(USED, "fits", a(0, 0, 0, 1, 0), 0, 0, 5);
    outside(USED, "fits", a(0, 0, 0, 1, 0), 1, 0, 7);
    outside(USED, "fits", a(0, 0, 0, 1, 0), 3, 1, 12);
    outside(USED, "fits", a(0, 0, 0, 1, 0), 4, 0, 3);
    refused(USED, Check.NULL, "fits", a(0, 3, 0, 1, 0), a(1, 7, -1, 12, 3));
    refused(USED, Check.PLACE, "fits", a(0, 0, 0, 4, 0), a(0, 0, -1, 1, 1), a(0, 0, 3, 1, 2), a(1, 0, MAX, 12, 3), a(0, 0, MIN, 1, 0));
    outside(USED, "absent", a(0, 0, 0, 0), 0, 0, 5);
    outside(USED, "absent", a(0, 0, 0, 0), 1, 0, 60);
    outside(USED, "absent", a(0, 0, 0, 0), 2, 0, 10);
    outside(USED, "absent", a(0, 0, 0, 0), 3, 0, 1);
    outside(USED, "drawn", a(0, 1, 0), 0, 0, 60);
    outside(USED, "drawn", a(0, 1, 0), 1, 1, 999999);
    outside(USED, "drawn", a(0, 1, 0), 2, 0, 1);
    outside(USED, "image", a(0), 0, 0, 1);
    outside(USED, "restore", a(0), 0, 0, 1);
    refused(USED, STATE, "restore", a(1));
  }

  @Holds({"What is refused, or found, changes nothing but status()."})
  static void refusedAsked() {
    outside(USED, "kind", a(0), 0, 0, 5);
    outside(USED, "as", a(0, 0), 0, 0, 5);
    outside(USED, "as", a(0, 0), 1, 0, 5);
    refused(USED, Check.KIND, "as", a(0, 2), a(0, 3), a(0, 4), a(0, 5), a(1, 3), a(2, 5), a(2, 1), a(3, 1), a(4, 2));
    outside(USED, "ask", a(0, 0), 0, 0, 5);
    outside(USED, "ask", a(0, 0), 1, 0, 1);
    outside(USED, "count", a(0), 0, 0, 9);
    for (int i : a(-1, 5, 16, MIN, MAX)) {
      c.due("trace(" + i + ")", USED.get().trace(i), Check.NONE);
      leaves(USED, " changes something", "trace", i);
    }
  }

  @Holds({"BAD; STATE: no STAIR (ahead of BAD)."})
  static void refusedWithoutAStair() {
    for (String call : new String[] {"ticks", "speed", "sorting", "taken"}) refused(NEW, STATE, call, a(1), a(0), a(-1), a(25), a(MIN), a(MAX));
    refused(NEW, STATE, "later", a(0, 0), a(-1, 0), a(61, 0), a(0, 2));
    refused(NEW, STATE, "drawn", a(0, 1, 0), a(-1, 1, 0), a(0, 0, 0), a(0, 1, 2));
    refused(NEW, STATE, "clear", a());
    refused(NEW, STATE, "undo", a());
    refused(NEW, STATE, "image", a(0), a(1));
    refused(NEW, STATE, "restore", a(0), a(1));
    refused(NEW, BAD, "image", a(-1), a(2));
    refused(NEW, BAD, "restore", a(-1), a(2));
    for (String call : new String[] {"cross", "take", "off", "kind"}) refused(NEW, BAD, call, a(0), a(-1), a(6));
    for (String call : new String[] {"again", "rider", "step", "ahead", "as", "ask"}) refused(NEW, BAD, call, a(0, 0), a(-1, 0), a(0, -1));
    refused(NEW, BAD, "pace", a(0, 1, -1));
    refused(NEW, BAD, "fits", a(0, 0, 0, 1, 0));
    refused(NEW, BAD, "absent", a(0, 0, 0, 0));
  }

  @Holds("FORETOLD (nothing changes)")
  static void lookingChangesNothing() {
    for (int r = 0; r < 6; r++) {
      leaves(USED, " changes something", "ahead", r, 60);
      leaves(USED, " changes something", "off", r);
      leaves(USED, " changes something", "pace", r, 6, -1);
      for (int what = 0; what < 4; what++) leaves(USED, " changes something", "fits", r, 0, 0, 3, what);
      for (int what = 0; what < 4; what++) leaves(USED, " changes something", "rider", r, what);
      leaves(USED, " changes something", "absent", r, 60, 5, 0);
      leaves(USED, " changes something", "kind", r);
      leaves(USED, " changes something", "as", r, 0);
    }
    for (int what = 0; what < 2; what++) {
      leaves(USED, " changes something", "later", 60, what);
      leaves(USED, " changes something", "sorting", what);
      leaves(USED, " changes something", "taken", what);
      leaves(USED, " changes something", "drawn", 60, 7, what);
      leaves(USED, " changes something", "step", 0, what);
    }
    leaves(USED, " changes something", "clear");
    leaves(USED, " changes something", "status");
    leaves(USED, " changes something", "fault");
    leaves(USED, " changes something", "trace", 0);
    for (int what = 0; what < 10; what++) leaves(USED, " changes something", "count", what);
    for (int what : a(0, 1)) {
      String after = Whole.of(() -> {
        StepRiders y = USED.get();
        y.ask(1, what);
        return y;
      });
      c.same("ask changes more than the trace", butTrace(after), butTrace(Whole.of(USED)));
    }
    StepRiders used = USED.get();
    c.places("on, off and in the queue", used, "1 99 99 0 -1 -1");
    c.due("acts", used.count(8), 24);
  }

  private static String butTrace(String whole) {
    return whole.replaceAll("trace( -?\\d+)+", "trace");
  }

  @Holds("An object is used for at most 512 calls after it has been made;")
  static void theLastOf512Calls() {
    StepRiders x = Check.of("m12,1;c0;w0;");
    for (int i = 13; i < 508; i++) x.ticks(1);
    x.again(0, 1);
    x.ticks(1);
    c.due("the 511th", x.rider(0, 0), 0);
    c.due("the 512th", x.count(3), 496);
  }

  public static void main(String[] args) {
    c.runAll(RefusedEdgeTest.class);
  }
}
