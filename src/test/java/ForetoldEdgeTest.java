/** The edges of promises 17 to 23 and of chapter 3 up to PACE. */
public final class ForetoldEdgeTest {
  private static final Check c = new Check();

  // ---- where, how many, off, clear

  @Holds({"FORETOLD (nothing changes) d TICKS on (0 to 60): where a RIDER is (the STEP; -1 the QUEUE; 99 OFF);",
      "`int ahead(int rider, int d)`: Where a RIDER is. BAD."})
  static void aheadNumbers() {
    c.due("no stair", new StepRiders().ahead(0, 0), Check.BAD);
    StepRiders x = Check.of("m12,1;s0;t0;");
    c.all(x, "ahead", Check.BAD, new int[][] {{-1, 0}, {2, 0}, {7, 0}, {Check.MIN, 0}, {Check.MAX, 0}});
    c.all(x, "ahead", Check.BAD, new int[][] {{0, -1}, {0, 61}, {0, Check.MIN}, {0, Check.MAX}});
    c.due("now", x.ahead(0, 0), -1);
    c.due("at the foot", x.ahead(0, 1), 0);
    c.due("still in the queue", x.ahead(1, 1), -1);
    c.due("on the uppermost", x.ahead(0, 12), 11);
    c.due("off", x.ahead(0, 13), 99);
    c.due("the other", x.ahead(1, 13), 11);
    c.due("60 on", x.ahead(1, 60), 99);
    StepRiders y = Check.of("m12,0;s0;s0;w1;");
    c.due("on for 60", y.ahead(0, 60), 0);
    c.due("in the queue for 60", y.ahead(1, 60), -1);
    c.due("on the uppermost for 60", y.ahead(2, 60), 11);
    y.take(1);
    c.due("off for 60", y.ahead(1, 60), 99);
    c.due("off now", y.ahead(1, 0), 99);
    StepRiders seven = Check.of("m4,1;s0;s0;s0;s0;s0;s0;s0;");
    c.due("the seventh", seven.ahead(6, 7), 0);
  }

  @Holds({"nothing changes", "how many are OFF; STEPS (bits) on which anybody is."})
  static void foretoldIsWhatComes() {
    String[] texts = {"m12,1;c0;w1;r0;t1;s0;r1;c1;", "m4,0;w0;t0;", "m9,2;c0;c1;c0;c1;w0;r1;", "m12,1;c0;c0;c0;c0;c0;c0;c0;"};
    for (String text : texts)
      for (int from = 0; from < 3; from++) {
        StepRiders x = Check.of(text);
        if (from > 0) x.ticks(from * 3);
        int riders = x.count(1), steps = x.count(2);
        StepRiders y = Check.of(text);
        if (from > 0) y.ticks(from * 3);
        for (int d = 0; d <= 12; d++) {
          for (int r = 0; r < riders; r++) c.due(text + " ahead(" + r + ", " + d + ")", x.ahead(r, d), y.rider(r, 0));
          c.due(text + " later(" + d + ", 0)", x.later(d, 0), y.count(7));
          int bits = 0;
          for (int s = 0; s < steps; s++) if ((y.step(s, 0) | y.step(s, 1)) != 0) bits |= 1 << s;
          c.due(text + " later(" + d + ", 1)", x.later(d, 1), bits);
          y.ticks(1);
        }
      }
  }

  @Holds({"`int later(int d, int what)`: How many are OFF (what = 0), STEPS on which anybody is (1). BAD; STATE: no STAIR (ahead of BAD)."})
  static void laterNumbers() {
    StepRiders none = new StepRiders();
    c.all(none, "later", Check.STATE, new int[][] {{0, 0}, {60, 1}, {-1, 0}, {61, 0}, {0, -1}, {0, 2}, {Check.MIN, Check.MAX}});
    StepRiders x = Check.of("m12,1;s0;s1;t0;");
    c.all(x, "later", Check.BAD, new int[][] {{-1, 0}, {61, 0}, {-1, 1}, {61, 1}, {Check.MIN, 0}, {Check.MAX, 0}});
    c.all(x, "later", Check.BAD, new int[][] {{0, -1}, {0, 2}, {0, Check.MIN}, {0, Check.MAX}});
    c.due("now, off", x.later(0, 0), 0);
    c.due("now, steps", x.later(0, 1), 0);
    c.due("the foot", x.later(1, 1), 1);
    c.due("three steps", x.later(3, 1), 7);
    c.due("the uppermost three", x.later(12, 1), 7 << 9);
    c.due("none is off", x.later(12, 0), 0);
    c.due("the first is off", x.later(13, 0), 1);
    c.due("all are", x.later(15, 0), 3);
    c.due("60 on", x.later(60, 0) * 10 + x.later(60, 1), 30);
    StepRiders y = Check.of("m4,0;s0;s1;");
    c.due("two on one step", y.later(60, 1), 1);
    c.due("none is off at 60", y.later(60, 0), 0);
    y.take(0);
    c.due("off now", y.later(0, 0), 1);
  }

  @Holds({"OFF: behind how many TICKS (0 to 60) a RIDER is OFF first; NONE.", "`int off(int rider)`: OFF; NONE. BAD."})
  static void offFirst() {
    c.due("no stair", new StepRiders().off(0), Check.BAD);
    StepRiders x = Check.of("m4,1;s0;s0;");
    c.all(x, "off", Check.BAD, new int[][] {{-1}, {2}, {7}, {Check.MIN}, {Check.MAX}});
    c.due("off(0)", x.off(0), 5);
    c.due("off(1)", x.off(1), 6);
    x.ticks(4);
    c.due("from the uppermost", x.off(0), 1);
    x.ticks(1);
    c.due("off now", x.off(0), 0);
    x.speed(0);
    c.due("off now, at rest", x.off(0), 0);
    c.due("never, at rest", x.off(1), Check.NONE);
    x.speed(2);
    c.due("faster", x.off(1), 1);
    StepRiders y = Check.of("m12,1;c0;c0;c0;c0;c0;c0;c0;");
    for (int r = 0; r < 7; r++) {
      int behind = y.off(r);
      c.due("child " + r + " is off then", y.ahead(r, behind), 99);
      c.so("child " + r + " is on before", y.ahead(r, behind - 1) < 12);
    }
    c.due("no rider is later than the last of seven children", y.clear(), y.off(6));
    c.due("one child alone", Check.of("m12,1;c0;").off(0), 23);
  }

  @Holds({"CLEAR: behind how many TICKS (0 to 60) all are OFF first; NONE.", "`int clear()`: CLEAR; NONE. STATE: no STAIR."})
  static void clearFirst() {
    c.due("no stair", new StepRiders().clear(), Check.STATE);
    StepRiders x = Check.of("m4,1;s0;t0;");
    c.due("clear()", x.clear(), 6);
    x.ticks(5);
    c.due("one is left", x.clear(), 1);
    x.ticks(1);
    c.due("all are off", x.clear(), 0);
    x.speed(0);
    c.due("all are off, at rest", x.clear(), 0);
    x.again(1, 0);
    c.due("one in the queue, at rest", x.clear(), Check.NONE);
    x.speed(1);
    c.due("one in the queue", x.clear(), 5);
    c.due("seven", Check.of("m12,2;s0;s0;s0;s0;s0;s0;s0;").clear(), 13);
  }

  // ---- sorting

  @Holds({"SORTING: of all LANES for those in the QUEUE now that by which all are OFF soonest (60 at most), of several the least bits (RIDERS in LANE 1, of those in the QUEUE): behind how many TICKS; which; NONE.",
      "`int sorting(int what)`: SORTING: behind how many (what = 0), which (1); NONE."})
  static void sortingOfSeveralTheLeast() {
    StepRiders x = Check.of("m12,1;s0;w0;");
    c.due("behind how many", x.sorting(0), 13);
    c.due("01 and 10 are as soon", x.sorting(1), 1);
    c.same("lanes stay", Check.lanes(x), "0 0");
    StepRiders left = Check.of("m12,1;s1;w1;");
    c.due("not by how they are", left.sorting(1), 1);
    StepRiders all = Check.of("m12,1;c1;c1;c1;c1;c1;c1;c1;");
    c.due("all lanes are as soon", all.sorting(1), 0);
    c.due("as it is", all.sorting(0), all.clear());
    StepRiders six = Check.of("m12,1;s0;w0;w0;w0;w0;w0;w0;");
    c.due("one who stands in the way of six", six.sorting(1), 1);
    c.due("behind how many", six.sorting(0), 13);
  }

  @Holds("(RIDERS in LANE 1, of those in the QUEUE)")
  static void sortingOfThoseInTheQueue() {
    StepRiders x = Check.of("m12,1;s0;s1;s1;s1;s1;s1;w0;");
    for (int r = 1; r < 6; r++) x.take(r);
    x.ticks(1);
    c.due("the seventh alone", x.sorting(1), 64);
    c.due("behind how many", x.sorting(0), 12);
    x.cross(0);
    c.due("one on the stair is not told", x.sorting(1), 0);
    c.due("nor moved", x.sorting(0), 12);
    x.ticks(1);
    c.due("nobody is in the queue", x.sorting(1), 0);
    c.due("as it is", x.sorting(0), x.clear());
  }

  @Holds({"behind how many (what = 0), which (1); NONE. BAD; STATE: no STAIR (ahead of BAD)."})
  static void sortingNumbers() {
    StepRiders none = new StepRiders();
    c.all(none, "sorting", Check.STATE, new int[][] {{0}, {1}, {-1}, {2}, {Check.MIN}, {Check.MAX}});
    StepRiders x = Check.of("m4,0;s0;s1;");
    c.all(x, "sorting", Check.BAD, new int[][] {{-1}, {2}, {Check.MIN}, {Check.MAX}});
    c.due("never", x.sorting(0), Check.NONE);
    c.due("none", x.sorting(1), Check.NONE);
    x.take(0);
    c.due("never", x.sorting(0), Check.NONE);
    x.take(1);
    c.due("all are off now", x.sorting(0), 0);
    c.due("all are off now", x.sorting(1), 0);
  }

  // ---- taken

  @Holds({"TAKEN: the RIDER who, OFF now, lets all the others be OFF soonest,", "of several the first: who; behind how many TICKS (60 at most); NONE."})
  static void takenOfSeveralTheFirst() {
    StepRiders x = Check.of("m6,1;s0;s1;s0;");
    c.due("clear()", x.clear(), 9);
    c.due("each of three is as good", x.taken(0), 0);
    c.due("behind how many", x.taken(1), 8);
    StepRiders y = Check.of("m12,1;w1;s0;w0;");
    c.due("the one in the way", y.taken(0), 1);
    c.due("behind how many", y.taken(1), 8);
    StepRiders last = Check.of("m12,2;w0;w0;w0;w0;w0;w0;c0;");
    c.due("the seventh", last.taken(0), 6);
    c.due("nothing changes", last.count(7) + last.count(8), 0);
  }

  @Holds({"sooner than all are as it is"})
  static void takenMustBeSooner() {
    StepRiders side = Check.of("m4,0;s0;s1;");
    side.ticks(2);
    side.speed(1);
    c.places("side by side", side, "0 0");
    c.due("either leaves the other", side.taken(0), Check.NONE);
    c.due("either leaves the other", side.taken(1), Check.NONE);
    side.take(0);
    c.due("one is left", side.taken(0), 1);
    c.due("nobody is left then", side.taken(1), 0);
    side.take(1);
    c.due("all are off now", side.taken(0), Check.NONE);
    c.due("all are off now", side.taken(1), Check.NONE);
  }

  @Holds({"(or at all, if that is not within 60)"})
  static void takenAtAll() {
    StepRiders x = Check.of("m4,0;s0;s0;s0;s0;s0;s0;s0;");
    c.due("more than one is left", x.taken(0), Check.NONE);
    for (int r = 0; r < 6; r++) {
      c.due("more than one is left", x.taken(1), Check.NONE);
      x.take(r);
    }
    c.due("the last one", x.taken(0), 6);
    c.due("nobody is left then", x.taken(1), 0);
  }

  @Holds({"`int taken(int what)`: TAKEN: who (what = 0), behind how many (1); NONE. BAD; STATE: no STAIR (ahead of BAD)."})
  static void takenNumbers() {
    StepRiders none = new StepRiders();
    c.all(none, "taken", Check.STATE, new int[][] {{0}, {1}, {-1}, {2}, {Check.MIN}, {Check.MAX}});
    StepRiders x = Check.of("m4,1;s0;");
    c.all(x, "taken", Check.BAD, new int[][] {{-1}, {2}, {Check.MIN}, {Check.MAX}});
    c.due("who", x.taken(0), 0);
    c.due("behind how many", x.taken(1), 0);
  }

  // ---- pace

  private static void paces(StepRiders x, int rider, int n, int sum, int... speeds) {
    c.due("pace(" + rider + ", " + n + ", -1)", x.pace(rider, n, -1), sum);
    for (int k = 0; k < n; k++) c.due("pace(" + rider + ", " + n + ", " + k + ")", x.pace(rider, n, k), speeds.length == 0 ? Check.NONE : speeds[k]);
    c.due("pace(" + rider + ", " + n + ", " + n + ")", x.pace(rider, n, n), Check.NONE);
  }

  @Holds({"`int pace(int rider, int n, int k)`: PACE: how much (k = -1), SPEED of the k-th (0 on; NONE: not so many); NONE: none. BAD: k below -1, too."})
  static void paceNumbers() {
    c.due("no stair", new StepRiders().pace(0, 1, -1), Check.BAD);
    StepRiders x = Check.of("m4,1;s0;s0;");
    c.all(x, "pace", Check.BAD, new int[][] {{-1, 1, 0}, {2, 1, 0}, {7, 1, 0}, {Check.MIN, 1, 0}, {Check.MAX, 1, 0}});
    c.all(x, "pace", Check.BAD, new int[][] {{0, 0, 0}, {0, 7, 0}, {0, -1, 0}, {0, Check.MIN, 0}, {0, Check.MAX, 0}});
    c.all(x, "pace", Check.BAD, new int[][] {{0, 1, -2}, {0, 6, -2}, {0, 6, Check.MIN}});
    c.all(x, "pace", Check.NONE, new int[][] {{0, 6, 6}, {0, 6, 7}, {0, 6, Check.MAX}, {0, 1, -1}, {0, 1, 0}, {0, 1, 1}, {0, 2, -1}});
    c.due("SPEED stays", x.count(4), 1);
  }

  @Holds({"PACE for a RIDER, n TICKS (1 to 6): of all rows of SPEEDS for these TICKS those with the least sum by which the RIDER is OFF behind them,"})
  static void paceOfTheLeastSum() {
    StepRiders x = Check.of("m4,0;s0;");
    paces(x, 0, 1, Check.NONE);
    paces(x, 0, 2, Check.NONE);
    paces(x, 0, 3, 4, 0, 2, 2);
    x.speed(2);
    x.ticks(2);
    c.places("below the uppermost", x, "2");
    paces(x, 0, 1, 2, 2);
    x.speed(1);
    x.ticks(1);
    c.places("on the uppermost", x, "3");
    paces(x, 0, 1, 1, 1);
    x.ticks(1);
    paces(x, 0, 1, 0, 0);
    paces(x, 0, 6, 0, 0, 0, 0, 0, 0, 0);
    StepRiders y = Check.of("m12,0;s0;");
    y.ticks(1);
    paces(y, 0, 5, Check.NONE);
    paces(y, 0, 6, 12, 2, 2, 2, 2, 2, 2);
    StepRiders w = Check.of("m4,0;w0;");
    w.ticks(3);
    c.places("one who walks", w, "2");
    paces(w, 0, 1, 1, 1);
    paces(w, 0, 6, 1, 0, 0, 0, 0, 0, 1);
  }

  @Holds("by which the RIDER is OFF behind them,")
  static void paceAskedAnew() {
    // the first of all calls, of one who is off: nothing is left from calls before
    for (int n = 1; n <= 6; n++) {
      StepRiders x = Check.of("m4,2;s0;s0;");
      x.take(0);
      c.due("of one who is off, n = " + n, x.pace(0, n, -1), 0);
    }
    // and what calls before have left is not taken for what is now
    StepRiders y = Check.of("m4,0;s0;");
    paces(y, 0, 3, 4, 0, 2, 2);
    y.ticks(1);
    paces(y, 0, 3, 4, 0, 2, 2);
    paces(y, 0, 2, 4, 2, 2);
    y.take(0);
    paces(y, 0, 3, 0, 0, 0, 0);
    y.again(0, 0);
    paces(y, 0, 2, Check.NONE);
    paces(y, 0, 3, 4, 0, 2, 2);
  }

  @Holds("of several the first (by numbers, TICK by TICK): how much; SPEED of the k-th TICK; NONE.")
  static void paceOfSeveralTheFirst() {
    StepRiders x = Check.of("m4,2;s0;");
    x.ticks(2);
    c.places("below the uppermost", x, "2");
    paces(x, 0, 2, 2, 0, 2);
    paces(x, 0, 3, 2, 0, 0, 2);
    paces(x, 0, 6, 2, 0, 0, 0, 0, 0, 2);
    StepRiders y = Check.of("m5,1;s0;");
    y.ticks(3);
    c.places("three to go", y, "2");
    paces(y, 0, 2, 3, 1, 2);
    paces(y, 0, 3, 3, 0, 1, 2);
    // one behind a trunk at rest must wait until the foot is free
    StepRiders z = Check.of("m4,0;t0;s0;");
    z.ticks(1);
    paces(z, 1, 4, 5, 0, 1, 2, 2);
    paces(z, 1, 3, 5, 1, 2, 2);
    paces(z, 1, 2, Check.NONE);
  }

  public static void main(String[] args) {
    c.runAll(ForetoldEdgeTest.class);
  }
}
