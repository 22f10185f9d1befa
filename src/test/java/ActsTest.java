/** Promises 9 to 16 and 33: ticks of all kinds of riders, the other acts, what undoes them, and what is seen. */
public final class ActsTest {
  private static final int BAD = -1000001, STATE = -1000002, FULL = -1000003;
  private static final Check c = new Check();

  /** The places behind each tick, as told. */
  private static void course(String text, String... places) {
    StepRiders x = Check.of(text);
    for (int i = 0; i < places.length; i++) {
      x.ticks(1);
      c.places(text + " behind " + (i + 1), x, places[i]);
    }
  }

  private static void kinds() {
    course("m4,1;s0;", "0", "1", "2", "3", "99", "99");
    course("m4,2;s0;", "0", "2", "99");
    course("m5,2;t0;", "0", "2", "4", "99");
    course("m4,0;s0;", "0", "0", "0");
    course("m4,0;w0;", "0", "1", "2", "3", "3", "3");
    course("m4,1;w0;", "0", "2", "99");
    course("m6,1;w0;", "0", "2", "4", "99");
    course("m5,0;r1;", "0", "2", "4", "4");
    course("m4,0;r1;", "0", "2", "3", "3");
    course("m8,1;c0;", "0", "1", "2", "2", "3", "3", "4", "4", "5", "5", "6", "6", "7", "7", "99");
    course("m4,0;c1;", "0", "0", "0");
  }

  private static void together() {
    // the uppermost goes first, so the one behind finds the step left
    course("m6,0;w0;w0;", "0 -1", "1 0", "2 1", "3 2", "4 3", "5 4", "5 4");
    // one who stands ahead holds up one who walks in the same lane, not in the other
    course("m12,1;s0;w0;", "0 -1", "1 0", "2 1", "3 2");
    course("m12,1;s0;w1;", "0 -1", "1 0", "2 2", "3 4", "4 6");
    // one who runs goes as far as is free
    course("m12,2;s0;r0;", "0 -1", "2 0", "4 3", "6 5");
    // a trunk takes both lanes, on the stair and at the foot
    course("m12,1;t0;w1;", "0 -1", "1 0", "2 1", "3 2");
    course("m8,0;s0;t1;s1;", "0 -1 -1", "0 -1 0", "0 -1 0");
    course("m8,0;t1;s0;s1;", "0 -1 -1", "0 -1 -1");
    // the first in the queue by number whose place is free, one at most
    course("m8,0;s0;s0;s1;s1;", "0 -1 -1 -1", "0 -1 0 -1", "0 -1 0 -1");
    // a child is held up from below by anybody in any lane
    course("m9,1;c0;s1;", "0 -1", "1 0", "2 1", "3 2", "4 3");
    // (the upper child has gone by then: it does not find the step that the lower one leaves)
    course("m9,1;c0;c0;", "0 -1", "1 0", "2 1", "3 1", "4 2", "4 2");
    // with a gap below it a child goes down in odd ticks
    course("m12,2;c0;s0;", "0 -1", "2 0", "4 2", "5 4", "7 6", "9 8", "11 10", "99 99");
  }

  private static void ticking() {
    StepRiders x = Check.of("m4,1;s0;s1;");
    c.due("ticks(0)", x.ticks(0), BAD);
    c.due("ticks(25)", x.ticks(25), BAD);
    c.due("ticks(-1)", x.ticks(-1), BAD);
    c.due("ticks(5)", x.ticks(5), 1);
    c.due("TICK", x.count(3), 5);
    c.due("acts", x.count(8), 5);
    c.due("ticks(24)", x.ticks(24), 2);
    c.due("acts", x.count(8), 24);
    StepRiders none = new StepRiders();
    c.due("ticks(1) without a stair", none.ticks(1), STATE);
    c.due("STATE is ahead of BAD", none.ticks(0), STATE);
  }

  private static void lastTick() {
    StepRiders x = Check.of("m4,1;c0;");
    for (int i = 0; i < 416; i++) x.ticks(24);
    c.due("TICK", x.count(3), 9984);
    c.due("ticks(16)", x.ticks(16), FULL);
    c.due("BAD is ahead of FULL", x.ticks(25), BAD);
    c.due("TICK stays", x.count(3), 9984);
    c.due("ticks(15)", x.ticks(15), 1);
    c.due("TICK", x.count(3), 9999);
    c.due("ticks(1)", x.ticks(1), FULL);
    x.again(0, 0);
    c.due("what is foretold has no such end", x.ahead(0, 3), 1);
    x.undo();
    x.undo();
    c.due("ticks(1) behind undo", x.ticks(1), 1);
  }

  private static void speeds() {
    StepRiders none = new StepRiders();
    c.due("speed(0) without a stair", none.speed(0), STATE);
    c.due("STATE is ahead of BAD", none.speed(3), STATE);
    StepRiders x = Check.of("m8,1;s0;");
    c.due("speed(-1)", x.speed(-1), BAD);
    c.due("speed(3)", x.speed(3), BAD);
    c.due("no act yet", x.count(8), 0);
    c.due("speed(2)", x.speed(2), 1);
    c.due("speed(0)", x.speed(0), 2);
    c.due("SPEED", x.count(4), 0);
    c.due("acts", x.count(8), 2);
    c.due("undo()", x.undo(), 1);
    c.due("SPEED", x.count(4), 2);
    c.due("undo()", x.undo(), 0);
    c.due("SPEED", x.count(4), 1);
  }

  private static void crossing() {
    c.due("cross(0) without a stair", new StepRiders().cross(0), BAD);
    StepRiders x = Check.of("m8,0;s0;s1;t0;c1;");
    c.due("cross(-1)", x.cross(-1), BAD);
    c.due("cross(4)", x.cross(4), BAD);
    c.due("in the queue", x.cross(2), 1);
    c.due("and back", x.cross(2), 0);
    x.ticks(1);
    c.due("on a step alone", x.cross(0), 1);
    c.due("and back", x.cross(0), 0);
    x.ticks(1);
    c.places("both stand on step 0", x, "0 0 -1 -1");
    c.due("beside another", x.cross(0), STATE);
    c.due("beside another", x.cross(1), STATE);
    int acts = x.count(8);
    x.take(0);
    c.due("one who is off", x.cross(0), STATE);
    c.due("the other, alone now", x.cross(1), 0);
    c.due("acts", x.count(8), acts + 2);
    x.take(1);
    x.ticks(1);
    c.places("the trunk is on", x, "99 99 0 -1");
    c.due("a trunk always may", x.cross(2), 1);
    c.due("lane", x.rider(2, 1), 1);
    x.take(2);
    c.due("not if it is off", x.cross(2), STATE);
    x.ticks(1);
    c.due("a child always may", x.cross(3), 0);
  }

  private static void taking() {
    c.due("take(0) without a stair", new StepRiders().take(0), BAD);
    StepRiders x = Check.of("m8,1;s0;w1;t0;");
    x.ticks(3);
    c.places("three ticks", x, "2 2 0");
    c.due("take(3)", x.take(3), BAD);
    c.due("take(-1)", x.take(-1), BAD);
    c.due("take(0)", x.take(0), 2);
    c.due("take(0) again", x.take(0), STATE);
    c.due("OFF", x.count(7), 1);
    c.due("undo()", x.undo(), 3);
    c.due("it is back", x.rider(0, 0), 2);
    StepRiders y = Check.of("m8,1;s0;w1;");
    c.due("take(1) from the queue", y.take(1), -1);
    c.due("OFF", y.count(7), 1);
    c.due("in the queue", y.count(5), 1);
  }

  private static void comingAgain() {
    c.due("again(0, 0) without a stair", new StepRiders().again(0, 0), BAD);
    StepRiders x = Check.of("m8,1;s0;w1;");
    c.due("again(0, 0): not off", x.again(0, 0), STATE);
    c.due("again(0, 2)", x.again(0, 2), BAD);
    c.due("again(0, -1)", x.again(0, -1), BAD);
    c.due("again(2, 0)", x.again(2, 0), BAD);
    x.take(0);
    x.take(1);
    c.due("again(1, 0)", x.again(1, 0), 1);
    c.due("its lane", x.rider(1, 1), 0);
    c.due("its place", x.rider(1, 0), -1);
    c.due("again(0, 0)", x.again(0, 0), 0);
    c.due("again(0, 0) twice", x.again(0, 0), STATE);
    c.due("undo()", x.undo(), 3);
    c.due("undo()", x.undo(), 2);
    c.due("its lane", x.rider(1, 1), 1);
    c.due("its place", x.rider(1, 0), 99);
    x.again(1, 1);
    x.again(0, 1);
    x.ticks(1);
    c.places("the queue goes by numbers, not by who came first", x, "0 -1");
  }

  private static void undoing() {
    c.due("undo() without a stair", new StepRiders().undo(), STATE);
    StepRiders x = Check.of("m12,1;w0;c0;");
    c.due("undo() of none", x.undo(), STATE);
    x.ticks(24);
    x.speed(2);
    c.due("24 at most", x.count(8), 24);
    for (int i = 23; i >= 0; i--) c.due("undo()", x.undo(), i);
    c.due("undo() of none", x.undo(), STATE);
    c.due("the first tick is forgotten", x.count(3), 1);
    c.due("SPEED", x.count(4), 1);
    c.places("as behind one tick", x, "0 -1");
    x.ticks(2);
    x.cross(0);
    c.due("undo() of cross", x.undo(), 2);
    c.due("lane", x.rider(0, 1), 0);
    c.places("still behind three", x, "4 1");
    x.undo();
    c.places("behind two", x, "2 0");
    c.due("refused calls are no acts", x.take(7) + x.ticks(0) + x.speed(9) + x.cross(-1), 4 * BAD);
    c.due("acts", x.count(8), 1);
  }

  private static void looking() {
    StepRiders none = new StepRiders();
    c.due("rider(0, 0) without a stair", none.rider(0, 0), BAD);
    c.due("step(0, 0) without a stair", none.step(0, 0), BAD);
    StepRiders x = Check.of("m4,1;t1;s0;w0;s1;");
    c.due("rider(0, -1)", x.rider(0, -1), BAD);
    c.due("rider(0, 4)", x.rider(0, 4), BAD);
    c.due("rider(4, 0)", x.rider(4, 0), BAD);
    c.due("rider(-1, 0)", x.rider(-1, 0), BAD);
    c.due("takes both", x.rider(0, 2), 1);
    c.due("takes one", x.rider(1, 2), 0);
    c.due("next of one in the queue", x.rider(0, 3), 0);
    x.ticks(4);
    c.places("four ticks", x, "3 2 1 0");
    c.due("next of one on the uppermost", x.rider(0, 3), 0);
    c.due("next of one behind a trunk", x.rider(1, 3), 0);
    c.due("next of one behind one in the own lane", x.rider(2, 3), 0);
    c.due("next of one behind one in the other lane", x.rider(3, 3), 1);
    c.due("step(3, 0)", x.step(3, 0), 1);
    c.due("step(3, 1)", x.step(3, 1), 1);
    c.due("step(2, 0)", x.step(2, 0), 2);
    c.due("step(2, 1)", x.step(2, 1), 0);
    c.due("step(0, 1)", x.step(0, 1), 8);
    c.due("step(4, 0)", x.step(4, 0), BAD);
    c.due("step(-1, 0)", x.step(-1, 0), BAD);
    c.due("step(0, 2)", x.step(0, 2), BAD);
    c.due("step(0, -1)", x.step(0, -1), BAD);
    x.ticks(1);
    c.due("next of one who is off", x.rider(0, 3), 0);
    c.due("where one is who is off", x.rider(0, 0), 99);
    StepRiders y = Check.of("m4,1;s0;t0;");
    y.ticks(2);
    c.due("next of a trunk behind one in any lane", y.rider(1, 3), 0);
  }

  private static void counting() {
    StepRiders x = Check.of("m7,2;s0;s1;s0;s1;s0;");
    x.row(3, 0, 0);
    x.take(4);
    x.ticks(3);
    x.feed('m');
    x.feed('9');
    int[] want = {1, 5, 7, 3, 2, 1, 3, 1, 4, 2};
    for (int k = 0; k < 10; k++) c.due("count(" + k + ")", x.count(k), want[k]);
    c.due("count(-1)", x.count(-1), BAD);
    c.due("count(10)", x.count(10), BAD);
  }

  public static void main(String[] args) {
    kinds();
    together();
    ticking();
    lastTick();
    speeds();
    crossing();
    taking();
    comingAgain();
    undoing();
    looking();
    counting();
    c.end("ActsTest");
  }
}
