/** The edges of promises 29 to 32, of promise 34 for as(), and of chapter 4. */
public final class AskedEdgeTest {
  private static final String SORTS = "swrtc";
  private static final Check c = new Check();

  private static void ask(StepRiders x, int rider, int what, int want, int... bodies) {
    c.due("ask(" + rider + ", " + what + ")", x.ask(rider, what), want);
    for (int i = 0; i < bodies.length; i++) c.due("its trace(" + i + ")", x.trace(i), bodies[i]);
    for (int i = bodies.length; i < 18; i++) c.due("its trace(" + i + ")", x.trace(i), Check.NONE);
  }

  @Holds({"`int kind(int rider)`: The KIND of a RIDER, as told (1 to 5). BAD."})
  static void kindNumbers() {
    c.due("no stair", new StepRiders().kind(0), Check.BAD);
    StepRiders x = Check.of("m4,1;s0;w0;r0;t0;c0;");
    c.all(x, "kind", Check.BAD, new int[][] {{-1}, {5}, {7}, {Check.MIN}, {Check.MAX}});
    for (int r = 0; r < 5; r++) c.due("kind(" + r + ")", x.kind(r), r + 1);
    StepRiders seven = Check.of("m4,1;s0;s0;s0;s0;s0;s0;c0;");
    c.due("kind(6)", seven.kind(6), 5);
    c.due("kind(7)", seven.kind(7), Check.BAD);
  }

  @Holds({"KINDS of RIDERS: 0 RIDER; 1 STANDER, a RIDER; 2 WALKER, a STANDER; 3 RUNNER, a STANDER; 4 TRUNK, a RIDER; 5 CHILD, a TRUNK. By this it is asked.",
      "A RIDER is taken as one of a KIND (0 .. 5): its number."})
  static void asEachOfEach() {
    String[] are = {"110000", "111000", "110100", "100010", "100011"};
    StepRiders x = Check.of("m4,1;s0;w0;r0;t0;c0;");
    for (int r = 0; r < 5; r++)
      for (int k = 0; k < 6; k++) {
        boolean is = are[r].charAt(k) == '1';
        c.due("as(" + r + ", " + k + ")", x.as(r, k), is ? r : Check.KIND);
        c.due("status()", x.status(), is ? 0 : 3);
      }
  }

  @Holds({"`int as(int rider, int kind)`", "BAD; KIND: it is no such one.", "3 KIND (a RIDER that is not that)"})
  static void asNumbers() {
    StepRiders none = new StepRiders();
    c.due("no stair", none.as(0, 0), Check.BAD);
    c.due("status()", none.status(), 0);
    StepRiders x = Check.of("m4,1;s0;w0;");
    c.due("as(0, 2)", x.as(0, 2), Check.KIND);
    c.all(x, "as", Check.BAD, new int[][] {{-1, 0}, {2, 0}, {7, 0}, {Check.MIN, 0}, {Check.MAX, 0}});
    c.all(x, "as", Check.BAD, new int[][] {{0, -1}, {0, 6}, {0, Check.MIN}, {0, Check.MAX}, {-1, 5}, {2, 5}});
    c.due("status() is left by BAD", x.status(), 3);
    c.due("as(1, 2)", x.as(1, 2), 1);
    c.due("status()", x.status(), 0);
    c.due("as(0, 5)", x.as(0, 5), Check.KIND);
    x.take(0);
    c.due("off, of its kind still", x.as(0, 1), 0);
  }

  @Holds({"0 SIZE: 10 lent to all RIDERS: where it is (as ahead). 11 of STANDERS: what 10 gives, and MARK. 12 of WALKERS: 0 less what 11 gives. 13 of TRUNKS: what 10 gives, less 100. 14 of CHILDREN: what 13 gives, twice.",
      "ASKS of RIDERS, by BODIES, each of which leaves its number in THE TRACE as it begins"})
  static void sizes() {
    StepRiders x = Check.of("m12,1;s1;w1;r1;t1;c1;");
    ask(x, 0, 0, -1 + 1, 11, 10, 21, 20);
    ask(x, 1, 0, -(-1 + 4), 12, 11, 10, 24, 21, 20);
    ask(x, 2, 0, -1 + 3 - 1000, 11, 10, 22, 21, 20);
    ask(x, 3, 0, -101, 13, 10);
    ask(x, 4, 0, -202, 14, 13, 10);
    x.ticks(5);
    c.places("behind five", x, "4 3 2 1 0");
    ask(x, 0, 0, 4 + 1, 11, 10, 21, 20);
    ask(x, 1, 0, -(3 + 4), 12, 11, 10, 24, 21, 20);
    ask(x, 2, 0, 2 + 3 - 1000, 11, 10, 22, 21, 20);
    ask(x, 3, 0, 1 - 100, 13, 10);
    ask(x, 4, 0, -200, 14, 13, 10);
    x.ticks(24);
    ask(x, 0, 0, 99 + 1, 11, 10, 21, 20);
    ask(x, 1, 0, -(99 + 4), 12, 11, 10, 24, 21, 20);
    ask(x, 2, 0, 99 + 3 - 1000, 11, 10, 22, 21, 20);
    ask(x, 3, 0, -1, 13, 10);
    ask(x, 4, 0, -2, 14, 13, 10);
  }

  @Holds({"1 MARK: 20 lent to all RIDERS: the number. 21 of STANDERS: what 20 gives, and the LANE. 22 of RUNNERS: what 21 gives, less 1000. 23 of TRUNKS: what 20 gives, less SIZE. 24 of WALKERS: what 21 gives, twice.",
      "(Of an ask the BODY told for the KIND begins, else that of the nearest KIND that it is, too, else the one that is lent; SIZE, MARK within others are asked of the same RIDER anew.)"})
  static void marks() {
    StepRiders x = Check.of("m12,1;s1;w1;r1;t1;c1;");
    ask(x, 0, 1, 1, 21, 20);
    ask(x, 1, 1, 4, 24, 21, 20);
    ask(x, 2, 1, 3 - 1000, 22, 21, 20);
    ask(x, 3, 1, 3 + 101, 23, 20, 13, 10);
    ask(x, 4, 1, 4 + 202, 23, 20, 14, 13, 10);
    for (int r = 0; r < 5; r++) x.cross(r);
    ask(x, 0, 1, 0, 21, 20);
    ask(x, 1, 1, 2, 24, 21, 20);
    ask(x, 2, 1, 2 - 1000, 22, 21, 20);
    ask(x, 3, 1, 3 + 101, 23, 20, 13, 10);
    ask(x, 4, 1, 4 + 202, 23, 20, 14, 13, 10);
    x.take(3);
    x.take(4);
    ask(x, 3, 1, 3 + 1, 23, 20, 13, 10);
    ask(x, 4, 1, 4 + 2, 23, 20, 14, 13, 10);
    StepRiders seven = Check.of("m12,1;w1;w1;w1;w1;w1;w1;w1;");
    ask(seven, 6, 1, 14, 24, 21, 20);
    ask(seven, 6, 0, -13, 12, 11, 10, 24, 21, 20);
  }

  @Holds({"`int ask(int rider, int what)`: An ASK (0, 1) of a RIDER. BAD. THE TRACE is empty ahead of it."})
  static void askNumbers() {
    StepRiders none = new StepRiders();
    c.due("no stair", none.ask(0, 0), Check.BAD);
    c.due("its trace", none.trace(0), Check.NONE);
    StepRiders x = Check.of("m4,1;s0;w0;t0;");
    ask(x, 1, 0, -(-1 + 2), 12, 11, 10, 24, 21, 20);
    c.all(x, "ask", Check.BAD, new int[][] {{-1, 0}, {3, 0}, {7, 0}, {Check.MIN, 0}, {Check.MAX, 0}});
    c.all(x, "ask", Check.BAD, new int[][] {{0, -1}, {0, 2}, {0, Check.MIN}, {0, Check.MAX}});
    c.due("what is refused leaves the trace", x.trace(0) * 100 + x.trace(5), 1220);
    ask(x, 0, 1, 0, 21, 20);
    ask(x, 2, 0, -101, 13, 10);
  }

  @Holds({"`int trace(int i)`: Number i of THE TRACE; NONE.", "(the first 16):"})
  static void traceNumbers() {
    StepRiders x = Check.of("m4,1;w0;c0;");
    for (int i = -1; i < 18; i++) c.due("nothing yet: trace(" + i + ")", x.trace(i), Check.NONE);
    x.ask(0, 0);
    c.due("trace(0)", x.trace(0), 12);
    c.due("trace(5)", x.trace(5), 20);
    c.all(x, "trace", Check.NONE, new int[][] {{-1}, {6}, {15}, {16}, {17}, {Check.MIN}, {Check.MAX}});
    x.ticks(3);
    x.kind(1);
    x.as(1, 5);
    c.due("other calls leave it", x.trace(5), 20);
    // the longest of all has six: no ask comes near 16
    for (char sort : SORTS.toCharArray())
      for (int what = 0; what < 2; what++) {
        StepRiders y = Check.of("m4,1;" + sort + "0;");
        y.ask(0, what);
        c.due(sort + ", " + what + ": trace(6)", y.trace(6), Check.NONE);
      }
  }

  @Holds({"What is refused, or found, changes nothing but status()."})
  static void statusIsLeftByTheRest() {
    StepRiders x = Check.of("m4,1;s0;");
    c.due("as(0, 5)", x.as(0, 5), Check.KIND);
    for (int i = 0; i < 90; i++) x.feed('m');
    c.due("FULL", x.feed('m'), Check.FULL);
    c.due("STATE", x.undo(), Check.STATE);
    c.due("BAD of a row", x.row(8, 0, 0) + x.set(8, 0, 0) + x.copy(8, 0, 0, 0, 0) + x.drop(8) + x.fits(0, 8, 0, 1, 0), 5 * Check.BAD);
    c.due("BAD of as()", x.as(0, 6), Check.BAD);
    x.ticks(1);
    x.cross(0);
    x.take(0);
    x.again(0, 0);
    x.ask(0, 0);
    x.trace(0);
    x.image(0);
    x.restore(0);
    x.stair();
    c.due("KIND still", x.status(), 3);
    c.due("as(0, 0)", x.as(0, 0), 0);
    c.due("none now", x.status(), 0);
    c.due("as(0, 4)", x.as(0, 4), Check.KIND);
    x.row(0, 0, 1);
    c.due("none now, by a row", x.status(), 0);
    x.set(0, 1, 1);
    x.as(0, 1);
    c.due("none now, by as()", x.status(), 0);
  }

  public static void main(String[] args) {
    c.runAll(AskedEdgeTest.class);
  }
}
