/** The edges of promises 9 to 16 and 33, and of chapter 2: places, ticks, acts. */
public final class ActsEdgeTest {
  private static final String[] ALL = {"s0", "s1", "w0", "w1", "r0", "r1", "t0", "t1", "c0", "c1"};
  private static final Check c = new Check();

  private static boolean both(String rider) {
    return rider.charAt(0) == 't' || rider.charAt(0) == 'c';
  }

  private static boolean meet(String a, String b) {
    return both(a) || both(b) || a.charAt(1) == b.charAt(1);
  }

  private static void course(String text, String... places) {
    c.course(Check.of(text), places);
  }

  // ---- places

  @Holds({"A RIDER is in the QUEUE, ON a STEP, or OFF.",
      "One ON a STEP takes the place of the own LANE of it, one with a trunk, and a child, both.",
      "RIDERS (bits) on a STEP who take the place of a LANE."})
  static void placesTaken() {
    for (String rider : ALL) {
      StepRiders x = Check.of("m4,0;" + rider + ";");
      c.due(rider + " in the queue", x.step(0, 0) + x.step(0, 1), 0);
      x.ticks(1);
      int lane = rider.charAt(1) - '0';
      c.due(rider + " in its own lane", x.step(0, lane), 1);
      c.due(rider + " in the other", x.step(0, 1 - lane), both(rider) ? 1 : 0);
      c.due(rider + " takes both", x.rider(0, 2), both(rider) ? 1 : 0);
      c.due("nowhere else", x.step(1, 0) + x.step(1, 1) + x.step(3, 0) + x.step(3, 1), 0);
      x.take(0);
      c.due(rider + " is off", x.step(0, 0) + x.step(0, 1), 0);
      c.due(rider + " takes both, off", x.rider(0, 2), both(rider) ? 1 : 0);
    }
  }

  @Holds({"A STEP is FREE for a RIDER, if nobody else takes any place there that this one would.",
      "3 whether the next STEP up is FREE for it (1, 0;"})
  static void freeForEachOfEach() {
    for (String a : new String[] {"s0", "s1", "t0", "t1", "c0", "c1"})
      for (String b : ALL) {
        StepRiders x = Check.of("m9,1;" + a + ";" + b + ";");
        x.ticks(2);
        c.places(a + " ahead of " + b, x, "1 0");
        c.due(a + " ahead of " + b + ": next is free", x.rider(1, 3), meet(a, b) ? 0 : 1);
        c.due(a + ": next is free", x.rider(0, 3), 1);
      }
    // at the foot one comes beside another only if they do not meet
    for (String a : new String[] {"s0", "s1", "t0", "t1", "c0", "c1"})
      for (String b : ALL) {
        StepRiders x = Check.of("m9,0;" + a + ";" + b + ";");
        x.ticks(2);
        c.places(a + " beside " + b, x, meet(a, b) ? "0 -1" : "0 0");
      }
    // those who go are in the way where they are, too
    for (String a : new String[] {"w0", "r0", "w1", "r1"}) {
      StepRiders x = Check.of("m4,0;" + a + ";w0;");
      x.ticks(6);
      c.places(a + " at the top", x, a.endsWith("0") ? "3 2" : "3 3");
    }
  }

  @Holds("0: it is not ON one, or on the uppermost). BAD.")
  static void nextOfTheUppermost() {
    StepRiders x = Check.of("m4,1;s0;");
    c.due("in the queue", x.rider(0, 3), 0);
    x.ticks(1);
    c.due("at the foot", x.rider(0, 3), 1);
    x.ticks(2);
    c.due("below the uppermost", x.rider(0, 3), 1);
    x.ticks(1);
    c.due("on the uppermost", x.rider(0, 0) * 10 + x.rider(0, 3), 30);
    x.ticks(1);
    c.due("off", x.rider(0, 3), 0);
    StepRiders y = Check.of("m12,1;t0;");
    y.ticks(12);
    c.due("on the uppermost of 12", y.rider(0, 0) * 10 + y.rider(0, 3), 110);
  }

  @Holds({"`int rider(int rider, int what)`: Of a RIDER: 0 where it is (the STEP; -1 the QUEUE; 99 OFF), 1 LANE, 2 whether it takes both places (1, 0),"})
  static void riderNumbers() {
    c.due("no stair", new StepRiders().rider(0, 0), Check.BAD);
    StepRiders x = Check.of("m4,1;s0;t1;w0;");
    c.all(x, "rider", Check.BAD, new int[][] {{-1, 0}, {3, 0}, {6, 0}, {7, 0}, {Check.MIN, 0}, {Check.MAX, 0}});
    c.all(x, "rider", Check.BAD, new int[][] {{0, -1}, {0, 4}, {0, Check.MIN}, {0, Check.MAX}, {3, 4}});
    x.take(2);
    x.ticks(1);
    c.places("on, in the queue, off", x, "0 -1 99");
    c.same("lanes", Check.lanes(x), "0 1 0");
    c.due("both", x.rider(0, 2) * 100 + x.rider(1, 2) * 10 + x.rider(2, 2), 10);
    StepRiders seven = Check.of("m4,1;s0;s0;s0;s0;s0;s0;c1;");
    c.due("rider(6, 2)", seven.rider(6, 2), 1);
    c.due("rider(7, 2)", seven.rider(7, 2), Check.BAD);
  }

  @Holds({"`int step(int step, int lane)`: RIDERS (bits) on a STEP who take the place of a LANE. BAD.", "Sets are bits.", "Numbers go from 0 on."})
  static void stepNumbers() {
    c.due("no stair", new StepRiders().step(0, 0), Check.BAD);
    for (int m : new int[] {4, 7, 12}) {
      StepRiders x = Check.of("m" + m + ",1;s0;t1;");
      c.all(x, "step", Check.BAD, new int[][] {{-1, 0}, {m, 0}, {m, 1}, {Check.MIN, 0}, {Check.MAX, 0}, {99, 0}});
      c.all(x, "step", Check.BAD, new int[][] {{0, -1}, {0, 2}, {0, Check.MIN}, {0, Check.MAX}});
      x.ticks(m);
      c.due("the uppermost of " + m, x.step(m - 1, 0), 1);
      c.due("its other lane", x.step(m - 1, 1), 0);
      c.due("the next", x.step(m - 2, 0) * 10 + x.step(m - 2, 1), 22);
      c.due("the foot", x.step(0, 0) + x.step(0, 1), 0);
    }
    StepRiders y = Check.of("m4,0;s0;s0;s0;s0;s0;s0;s1;");
    y.ticks(2);
    c.due("the seventh is bit 6", y.step(0, 1), 64);
    c.due("the first is bit 0", y.step(0, 0), 1);
  }

  // ---- a tick

  @Holds({"A TICK. First those ON the stair go, one after the other, the uppermost STEP first as the TICK begins",
      "each by how all are by then:"})
  static void uppermostFirst() {
    course("m6,0;w0;w0;w0;", "0 -1 -1", "1 0 -1", "2 1 0", "3 2 1", "4 3 2", "5 4 3", "5 4 3");
    course("m9,0;w0;r0;", "0 -1", "1 0", "2 1", "3 2", "4 3");
    course("m9,0;r0;w0;", "0 -1", "2 0", "4 1", "6 2", "8 3", "8 4");
    // whatever their numbers
    StepRiders x = Check.of("m9,0;w0;w0;");
    x.take(0);
    x.ticks(1);
    x.again(0, 0);
    c.course(x, "0 1", "1 2", "2 3", "3 4");
    StepRiders y = Check.of("m9,0;w1;w0;s0;s0;s0;s0;w1;");
    for (int r = 0; r < 6; r++) y.take(r);
    c.course(y, "99 99 99 99 99 99 0", "99 99 99 99 99 99 1");
    y.again(0, 1);
    c.course(y, "0 99 99 99 99 99 2", "1 99 99 99 99 99 3");
    // the upper child looks first, and finds the lower one still there
    course("m12,1;c0;c0;", "0 -1", "1 0", "2 1", "3 1", "4 2", "4 2");
  }

  @Holds({"one who stands, and one with a trunk, not at all;"})
  static void standersAndTrunksDoNotGo() {
    course("m4,0;s0;", "0", "0", "0", "0");
    course("m4,0;t1;", "0", "0", "0", "0");
    course("m5,1;s1;", "0", "1", "2", "3", "4", "99");
    course("m5,1;t0;", "0", "1", "2", "3", "4", "99");
  }

  @Holds("one who walks goes one STEP up, if that is FREE for the own;")
  static void walkersGoOne() {
    course("m5,0;w0;", "0", "1", "2", "3", "4", "4");
    course("m9,1;s0;w0;", "0 -1", "1 0", "2 1", "3 2");
    course("m9,1;s1;w0;", "0 -1", "1 0", "2 2", "3 4", "4 6");
    course("m9,1;t1;w0;", "0 -1", "1 0", "2 1", "3 2");
    course("m9,1;c1;w0;", "0 -1", "1 0", "2 1", "3 2");
  }

  @Holds("one who runs as one who walks, twice (if not the first time, then not the second time either);")
  static void runnersGoTwice() {
    course("m9,0;r0;", "0", "2", "4", "6", "8", "8");
    // not the first time: right behind one in the same lane; the first time alone: one step between them
    course("m12,1;s0;r0;", "0 -1", "1 0", "2 1", "3 2");
    course("m12,2;s0;r0;", "0 -1", "2 0", "4 3", "6 5");
    course("m12,2;s1;r0;", "0 -1", "2 0", "4 4", "6 8", "8 99");
    // it does not go past one who is in the way
    StepRiders x = Check.of("m12,2;s0;r0;");
    x.ticks(2);
    x.speed(0);
    x.ticks(1);
    c.places("held up one below", x, "2 1");
    x.ticks(3);
    c.places("and never past", x, "2 1");
  }

  @Holds("a child one STEP down in TICKS that are odd, if that is FREE for it.")
  static void childrenGoDownInOddTicks() {
    StepRiders x = Check.of("m12,2;c0;");
    x.ticks(3);
    c.places("behind three", x, "4");
    x.speed(0);
    c.course(x, "3", "3", "2", "2", "1", "1", "0", "0", "0");
    // the tick that begins at TICK 1 is odd; an act that is no tick does not change that
    StepRiders y = Check.of("m12,2;c1;");
    y.ticks(2);
    c.places("at TICK 2", y, "2");
    y.speed(0);
    y.cross(0);
    y.ticks(1);
    c.places("an even tick", y, "2");
    y.ticks(1);
    c.places("an odd tick", y, "1");
    // anybody below is in its way, in any lane
    for (String below : new String[] {"s0", "s1", "t0", "c0"}) {
      StepRiders z = Check.of("m12,1;c0;" + below + ";");
      z.ticks(3);
      z.speed(0);
      c.places(below + " is right below", z, "2 1");
      z.ticks(1);
      c.due("held up by " + below, z.rider(0, 0), 2);
      z.take(1);
      z.ticks(2);
      c.due("not any more", z.rider(0, 0), 1);
    }
  }

  @Holds("(Nobody goes beyond STEPS, nor below 0, by that.)")
  static void nobodyGoesBeyond() {
    course("m4,0;w0;", "0", "1", "2", "3", "3", "3");
    course("m4,0;r0;", "0", "2", "3", "3");
    course("m5,0;r0;", "0", "2", "4", "4");
    course("m12,0;r1;", "0", "2", "4", "6", "8", "10", "11", "11");
    course("m4,0;c0;", "0", "0", "0", "0");
    StepRiders x = Check.of("m4,0;w0;");
    x.ticks(24);
    c.due("nobody is off", x.count(7), 0);
  }

  @Holds("Then the stair carries all up by SPEED STEPS; who is beyond the uppermost is OFF.")
  static void carriedBeyondTheUppermost() {
    course("m4,1;s0;", "0", "1", "2", "3", "99", "99");
    course("m4,2;s0;", "0", "2", "99", "99");
    course("m5,2;s0;", "0", "2", "4", "99");
    course("m4,0;s0;", "0", "0", "0");
    course("m5,1;w0;", "0", "2", "4", "99");
    course("m6,1;w0;", "0", "2", "4", "99");
    course("m4,2;r0;", "0", "99");
    course("m5,2;r0;", "0", "4", "99");
    course("m12,1;r0;", "0", "3", "6", "9", "99");
    course("m12,2;s0;s1;", "0 -1", "2 0", "4 2", "6 4", "8 6", "10 8", "99 10", "99 99");
  }

  @Holds("Then the first RIDER in the QUEUE (by numbers) for whom STEP 0 is FREE comes ON it (one at most).")
  static void oneComesOn() {
    course("m9,1;s0;s1;s0;", "0 -1 -1", "1 0 -1", "2 1 0");
    course("m9,0;s0;s1;s1;", "0 -1 -1", "0 0 -1", "0 0 -1");
    course("m9,0;s0;t0;s0;s1;", "0 -1 -1 -1", "0 -1 -1 0", "0 -1 -1 0");
    course("m9,0;t0;s0;s1;c0;", "0 -1 -1 -1", "0 -1 -1 -1");
    // at once when STEP 0 is left by going or by carrying
    course("m9,0;w0;w0;", "0 -1", "1 0");
    course("m9,2;t0;t0;", "0 -1", "2 0");
    StepRiders x = Check.of("m9,1;s0;s0;s0;");
    x.ticks(3);
    x.take(2);
    x.take(0);
    x.again(2, 0);
    x.again(0, 0);
    x.ticks(1);
    c.places("by numbers, not by who came first", x, "0 2 -1");
    StepRiders none = Check.of("m9,1;s0;");
    none.take(0);
    none.ticks(1);
    c.places("nobody is in the queue", none, "99");
  }

  @Holds("TICK is 1 more.")
  static void tickIsOneMore() {
    StepRiders x = Check.of("m4,0;s0;");
    c.due("at first", x.count(3), 0);
    x.ticks(1);
    c.due("behind one", x.count(3), 1);
    x.ticks(24);
    c.due("behind 25", x.count(3), 25);
    x.speed(1);
    x.cross(0);
    x.take(0);
    x.again(0, 0);
    x.ahead(0, 9);
    c.due("no other call is a tick", x.count(3), 25);
  }

  // ---- acts

  @Holds({"`int ticks(int n)`: n TICKS (1 to 24), an ACT each: how many are OFF then.", "BAD; STATE: no STAIR (ahead of BAD); FULL: beyond TICK 9999."})
  static void ticksNumbers() {
    StepRiders none = new StepRiders();
    c.all(none, "ticks", Check.STATE, new int[][] {{1}, {24}, {0}, {25}, {-1}, {Check.MIN}, {Check.MAX}});
    StepRiders x = Check.of("m4,1;s0;s1;");
    c.all(x, "ticks", Check.BAD, new int[][] {{0}, {-1}, {25}, {Check.MIN}, {Check.MAX}});
    c.due("none was made", x.count(3) + x.count(8), 0);
    c.due("ticks(1)", x.ticks(1), 0);
    c.due("an act", x.count(8), 1);
    c.due("ticks(4)", x.ticks(4), 1);
    c.due("an act each", x.count(8), 5);
    x.undo();
    c.due("one tick is undone", x.count(3), 4);
    c.due("ticks(24)", x.ticks(24), 2);
    c.due("TICK", x.count(3), 28);
    StepRiders y = Check.of("m4,1;s0;s1;");
    c.due("24 at once", y.ticks(24), 2);
    c.due("TICK", y.count(3), 24);
    c.due("acts", y.count(8), 24);
  }

  @Holds("FULL: beyond TICK 9999.")
  static void ticksToTheLast() {
    StepRiders x = Check.of("m4,1;s0;");
    x.ticks(15);
    for (int i = 0; i < 416; i++) c.due("ticks(24)", x.ticks(24), 1);
    c.due("TICK", x.count(3), 9999);
    c.all(x, "ticks", Check.FULL, new int[][] {{1}, {2}, {24}});
    c.all(x, "ticks", Check.BAD, new int[][] {{0}, {25}});
    c.due("TICK stays", x.count(3), 9999);
    c.due("acts stay", x.count(8), 24);
    for (int i = 1; i <= 5; i++) c.due("undo()", x.undo(), 24 - i);
    c.due("TICK", x.count(3), 9994);
    c.due("six do not go", x.ticks(6), Check.FULL);
    c.due("none of them went", x.count(3) * 100 + x.count(8), 999419);
    c.due("four go", x.ticks(4), 1);
    c.due("two do not go", x.ticks(2), Check.FULL);
    c.due("one goes", x.ticks(1), 1);
    c.due("TICK", x.count(3), 9999);
    c.due("other acts go on", x.again(0, 0) * 10 + x.speed(2), 1);
    c.due("so does what is foretold", x.ahead(0, 2), 2);
    c.due("and this", x.off(0), 3);
    c.due("TICK 0 again", Check.read(x, "m4,1;s0;") * 10 + x.ticks(24), 11);
  }

  @Holds({"`int speed(int v)`: SPEED is v (0 to 2): what it was. BAD; STATE: no STAIR (ahead of BAD)."})
  static void speedNumbers() {
    StepRiders none = new StepRiders();
    c.all(none, "speed", Check.STATE, new int[][] {{0}, {2}, {-1}, {3}, {Check.MIN}, {Check.MAX}});
    StepRiders x = Check.of("m12,1;s0;");
    c.all(x, "speed", Check.BAD, new int[][] {{-1}, {3}, {Check.MIN}, {Check.MAX}});
    c.due("SPEED stays", x.count(4) * 10 + x.count(8), 10);
    c.due("speed(0)", x.speed(0), 1);
    c.due("speed(2)", x.speed(2), 0);
    c.due("speed(1)", x.speed(1), 2);
    c.due("speed(1) again", x.speed(1), 1);
    c.due("SPEED", x.count(4), 1);
  }

  @Holds({"`int cross(int rider)`: The LANE of a RIDER is the other one: which then.",
      "BAD; STATE: it is OFF, or ON a STEP that is not FREE for it there then (of one with a trunk, a child it always may)."})
  static void crossing() {
    c.due("no stair", new StepRiders().cross(0), Check.BAD);
    StepRiders x = Check.of("m9,0;s0;w1;t0;c1;");
    c.all(x, "cross", Check.BAD, new int[][] {{-1}, {4}, {7}, {Check.MIN}, {Check.MAX}});
    for (int r = 0; r < 4; r++) {
      c.due("in the queue", x.cross(r), r % 2 == 0 ? 1 : 0);
      c.due("and back", x.cross(r), r % 2);
    }
    x.ticks(1);
    c.due("alone on a step", x.cross(0), 1);
    c.due("its place", x.step(0, 1) * 10 + x.step(0, 0), 10);
    c.due("and back", x.cross(0), 0);
    x.ticks(1);
    c.places("beside each other", x, "0 0 -1 -1");
    c.due("the other is there", x.cross(0), Check.STATE);
    c.due("the other is there", x.cross(1), Check.STATE);
    c.due("others still may", x.cross(2), 1);
    x.take(0);
    c.due("off", x.cross(0), Check.STATE);
    c.due("the other alone now", x.cross(1), 0);
    x.take(1);
    x.ticks(1);
    c.due("a trunk on a step", x.cross(2), 0);
    c.due("always", x.cross(2), 1);
    x.take(2);
    c.due("a trunk that is off", x.cross(2), Check.STATE);
    x.ticks(1);
    c.due("a child on a step", x.cross(3), 0);
    c.due("always", x.cross(3), 1);
    x.take(3);
    c.due("a child that is off", x.cross(3), Check.STATE);
    c.same("lanes of those who are off stay", Check.lanes(x), "0 0 1 1");
  }

  @Holds({"`int take(int rider)`: A RIDER is taken OFF: where it was. BAD; STATE: it is OFF."})
  static void taking() {
    c.due("no stair", new StepRiders().take(0), Check.BAD);
    StepRiders x = Check.of("m4,1;s0;s0;s0;s0;s0;");
    x.ticks(4);
    c.places("four on", x, "3 2 1 0 -1");
    c.all(x, "take", Check.BAD, new int[][] {{-1}, {5}, {7}, {Check.MIN}, {Check.MAX}});
    c.due("from the uppermost", x.take(0), 3);
    c.due("off", x.take(0), Check.STATE);
    c.due("from the foot", x.take(3), 0);
    c.due("from the queue", x.take(4), -1);
    c.due("off", x.take(4), Check.STATE);
    c.places("two on", x, "99 2 1 99 99");
    c.due("the places are left", x.step(3, 0) + x.step(0, 0), 0);
    x.ticks(2);
    c.due("off by a tick", x.take(1), Check.STATE);
  }

  @Holds({"`int again(int rider, int lane)`: A RIDER who is OFF comes to the QUEUE again, in a LANE: how many are OFF then. BAD; STATE: it is not OFF."})
  static void comingAgain() {
    c.due("no stair", new StepRiders().again(0, 0), Check.BAD);
    StepRiders x = Check.of("m4,1;s0;s1;t0;");
    x.ticks(1);
    c.all(x, "again", Check.BAD, new int[][] {{-1, 0}, {3, 0}, {7, 0}, {Check.MIN, 0}, {Check.MAX, 0}});
    c.all(x, "again", Check.BAD, new int[][] {{0, -1}, {0, 2}, {0, Check.MIN}, {0, Check.MAX}});
    c.due("on", x.again(0, 0), Check.STATE);
    c.due("in the queue", x.again(1, 0), Check.STATE);
    c.due("BAD is ahead of STATE", x.again(0, 2), Check.BAD);
    for (int r = 0; r < 3; r++) x.take(r);
    c.due("again(1, 1)", x.again(1, 1), 2);
    c.due("again(0, 1)", x.again(0, 1), 1);
    c.due("again(2, 0)", x.again(2, 0), 0);
    c.due("not off any more", x.again(2, 0), Check.STATE);
    c.places("in the queue", x, "-1 -1 -1");
    c.same("lanes", Check.lanes(x), "1 1 0");
  }

  @Holds({"`int undo()`: The latest ACT is undone: how many can be undone yet. STATE: none."})
  static void undoingNone() {
    StepRiders x = new StepRiders();
    c.due("no stair", x.undo(), Check.STATE);
    Check.read(x, "m4,1;s0;");
    c.due("no act yet", x.undo(), Check.STATE);
    x.ticks(2);
    c.due("undo()", x.undo(), 1);
    c.due("undo()", x.undo(), 0);
    c.due("undo()", x.undo(), Check.STATE);
    c.places("as at first", x, "-1");
    c.due("TICK", x.count(3), 0);
    x.take(7);
    x.ticks(0);
    x.speed(3);
    x.again(0, 0);
    x.image(0);
    x.ahead(0, 9);
    x.drawn(9, 9, 0);
    x.ask(0, 0);
    c.due("what is refused, or no act", x.undo(), Check.STATE);
  }

  @Holds({"each can be undone, the latest first): a TICK; SPEED is another; the LANE of a RIDER is the other one; a RIDER is taken OFF; one who is OFF comes to the QUEUE again."})
  static void undoingEach() {
    StepRiders x = Check.of("m9,1;w0;s1;");
    x.ticks(2);
    x.speed(2);
    x.cross(0);
    x.take(0);
    x.again(0, 0);
    x.take(1);
    c.due("acts", x.count(8), 7);
    c.places("now", x, "-1 99");
    c.due("taken from a step", x.undo(), 6);
    c.places("back on it", x, "-1 0");
    c.due("came again", x.undo(), 5);
    c.places("off again", x, "99 0");
    c.same("in its lane", Check.lanes(x), "1 1");
    c.due("taken", x.undo(), 4);
    c.places("on", x, "2 0");
    c.due("crossed", x.undo(), 3);
    c.same("in its lane", Check.lanes(x), "0 1");
    c.due("SPEED", x.count(4), 2);
    c.due("sped", x.undo(), 2);
    c.due("SPEED", x.count(4), 1);
    c.due("a tick", x.undo(), 1);
    c.places("behind one", x, "0 -1");
    c.due("TICK", x.count(3), 1);
    c.due("a tick", x.undo(), 0);
    c.places("at first", x, "-1 -1");
    c.due("TICK", x.count(3), 0);
    // one who went off by a tick is on again
    StepRiders y = Check.of("m4,2;s0;");
    y.ticks(3);
    c.places("off", y, "99");
    y.undo();
    c.places("on", y, "2");
    y.ticks(1);
    c.places("off", y, "99");
  }

  @Holds({"SPEED is another;"})
  static void theSameSpeedIsAnAct() {
    StepRiders x = Check.of("m4,1;s0;");
    c.due("speed(1)", x.speed(1), 1);
    c.due("acts", x.count(8), 1);
    c.due("undo()", x.undo(), 0);
    c.due("SPEED", x.count(4), 1);
  }

  @Holds({"ACTS (24 at most are kept, of more the oldest is forgotten;", "8 ACTS that can be undone,"})
  static void twentyFourActsAndOneMore() {
    StepRiders x = Check.of("m9,1;s0;s1;");
    x.take(1);
    x.ticks(23);
    c.due("24 acts", x.count(8), 24);
    x.speed(2);
    c.due("25 acts", x.count(8), 24);
    for (int i = 23; i >= 0; i--) c.due("undo()", x.undo(), i);
    c.due("the oldest is forgotten", x.undo(), Check.STATE);
    c.places("it stays taken", x, "-1 99");
    c.due("TICK", x.count(3), 0);
    x.ticks(24);
    c.due("undo() of exactly 24", x.undo(), 23);
    for (int i = 22; i >= 0; i--) c.due("undo()", x.undo(), i);
    c.places("as ahead of them", x, "-1 99");
    // once around and more, with some undone between
    x.ticks(24);
    x.ticks(24);
    for (int i = 23; i >= 14; i--) c.due("undo()", x.undo(), i);
    c.due("TICK", x.count(3), 38);
    x.ticks(3);
    c.due("acts", x.count(8), 17);
    x.ticks(9);
    c.due("acts", x.count(8), 24);
    for (int i = 23; i >= 0; i--) c.due("undo()", x.undo(), i);
    c.due("TICK", x.count(3), 26);
    c.due("undo()", x.undo(), Check.STATE);
  }

  // ---- counts

  @Holds({"`int count(int what)`: How many: 0 ROWS, 1 RIDERS, 2 STEPS, 3 TICK, 4 SPEED, 5 in the QUEUE, 6 ON the stair, 7 OFF, 8 ACTS that can be undone, 9 bytes on the tape. BAD."})
  static void counting() {
    StepRiders x = new StepRiders();
    for (int k = 0; k < 10; k++) c.due("nothing yet: count(" + k + ")", x.count(k), 0);
    c.all(x, "count", Check.BAD, new int[][] {{-1}, {10}, {Check.MIN}, {Check.MAX}});
    Check.read(x, "m12,2;s0;s0;s0;s0;s0;s0;s0;");
    for (int r = 0; r < 8; r++) x.row(r, 0, 0);
    int[] first = {8, 7, 12, 0, 2, 7, 0, 0, 0, 0};
    for (int k = 0; k < 10; k++) c.due("at first: count(" + k + ")", x.count(k), first[k]);
    x.ticks(5);
    x.take(6);
    x.drop(0);
    Check.feed(x, "m12");
    int[] then = {7, 7, 12, 5, 2, 1, 5, 1, 6, 3};
    for (int k = 0; k < 10; k++) c.due("then: count(" + k + ")", x.count(k), then[k]);
    x.ticks(24);
    int[] last = {7, 7, 12, 29, 2, 0, 0, 7, 24, 3};
    for (int k = 0; k < 10; k++) c.due("at last: count(" + k + ")", x.count(k), last[k]);
    c.all(x, "count", Check.BAD, new int[][] {{-1}, {10}, {Check.MIN}, {Check.MAX}});
  }

  public static void main(String[] args) {
    c.runAll(ActsEdgeTest.class);
  }
}
