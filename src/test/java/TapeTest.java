/** Promises 6 to 8. */
public final class TapeTest {
  private static final int BAD = -1000001, FULL = -1000003;
  private static final Check c = new Check();

  private static void fault(String text, int place, int number) {
    StepRiders x = Check.of("m9,2;w1;t0;");
    x.ticks(2);
    c.due("'" + text + "' stair()", Check.read(x, text), -1000100 - place);
    c.due("'" + text + "' fault()", x.fault(), number);
    c.due("'" + text + "' empties the tape", x.count(9), 0);
    c.due("'" + text + "' leaves the stair", x.count(1) * 1000 + x.count(2) * 10 + x.count(3), 2092);
    c.due("'" + text + "' leaves the acts", x.count(8), 2);
    c.due("'" + text + "' leaves the kinds", x.kind(0) * 10 + x.kind(1), 24);
  }

  private static void read(String text, int riders, int steps, int speed) {
    StepRiders x = new StepRiders();
    c.due("'" + text + "' stair()", Check.read(x, text), riders);
    c.due("'" + text + "' fault()", x.fault(), 0);
    c.due("'" + text + "' count(1)", x.count(1), riders);
    c.due("'" + text + "' count(2)", x.count(2), steps);
    c.due("'" + text + "' count(4)", x.count(4), speed);
    c.due("'" + text + "' count(5)", x.count(5), riders);
    c.due("'" + text + "' count(9)", x.count(9), 0);
  }

  private static void feeding() {
    StepRiders x = new StepRiders();
    c.due("feed(-1)", x.feed(-1), BAD);
    c.due("feed(256)", x.feed(256), BAD);
    for (int i = 1; i <= 90; i++) c.due("feed no " + i, x.feed(i == 1 ? 0 : i == 2 ? 255 : 'm'), i);
    c.due("count(9)", x.count(9), 90);
    c.due("feed no 91", x.feed('m'), FULL);
    c.due("BAD is ahead of FULL", x.feed(-1), BAD);
    c.due("count(9)", x.count(9), 90);
    c.due("stair()", x.stair(), -1000100);
    c.due("feed no 1 again", x.feed('m'), 1);
  }

  private static void reading() {
    read("m4,0;s0;", 1, 4, 0);
    read("m12,2;c1;", 1, 12, 2);
    read("m04,01;s00;w01;", 2, 4, 1);
    read("m9,1;s0;w1;r0;t1;c0;s1;w0;", 7, 9, 1);
    StepRiders x = Check.of("m9,1;s0;w1;r0;t1;c0;");
    for (int r = 0; r < 5; r++) {
      c.due("kind(" + r + ")", x.kind(r), r + 1);
      c.due("lane of " + r, x.rider(r, 1), r % 2);
      c.due("place of " + r, x.rider(r, 0), -1);
    }
  }

  private static void faults() {
    fault("", 0, 1);
    fault("s0;", 0, 1);
    fault("M9,1;s0;", 0, 1);
    fault("9,1;s0;", 0, 1);
    fault("m", 1, 1);
    fault("m,1;", 1, 1);
    fault("mm", 1, 1);
    fault("m3,1;s0;", 1, 2);
    fault("m13,1;s0;", 1, 2);
    fault("m00,1;s0;", 1, 2);
    fault("m99,1;s0;", 1, 2);
    fault("m009,1;s0;", 1, 1);
    fault("m123456", 1, 1);
    fault("m9", 2, 1);
    fault("m12", 3, 1);
    fault("m9;1;s0;", 2, 1);
    fault("m9 ,1;s0;", 2, 1);
    fault("m9,", 3, 1);
    fault("m9,s", 3, 1);
    fault("m9,3;s0;", 3, 2);
    fault("m9,22;s0;", 3, 2);
    fault("m9,111;s0;", 3, 1);
    fault("m9,1", 4, 1);
    fault("m9,1,s0;", 4, 1);
    fault("m9,1;", 5, 1);
    fault("m9,1;;", 5, 1);
    fault("m9,1;0;", 5, 1);
    fault("m9,1;m0;", 5, 1);
    fault("m9,1;S0;", 5, 1);
    fault("m9,1;s", 6, 1);
    fault("m9,1;s;", 6, 1);
    fault("m9,1;s2;", 6, 2);
    fault("m9,1;s10;", 6, 2);
    fault("m9,1;s000;", 6, 1);
    fault("m9,1;s0", 7, 1);
    fault("m9,1;s0,", 7, 1);
    fault("m9,1;s0;x", 8, 1);
    fault("m9,1;s0;s", 9, 1);
    fault("m9,1;s0; ", 8, 1);
    fault("m9,1;s0;\u0000", 8, 1);
    fault("m9,1;s0;\u00e9", 8, 1);
    fault("m9,1;s0;s1;w0;w1;r0;r1;t0;c", 26, 3);
    fault("m9,1;s0;s1;w0;w1;r0;r1;t0;c5;", 26, 3);
    fault("m9,1;s0;s1;w0;w1;r0;r1;t0;x", 26, 1);
    fault("m9,1;s0;s1;w0;w1;r0;r1;t0;0", 26, 1);
    fault("m9,1;s0;s1;w0;w1;r0;r1;t9;c", 24, 2);
    fault("m3,9;x", 1, 2);
  }

  private static void latestFault() {
    StepRiders x = new StepRiders();
    c.due("fault() before one", x.fault(), 0);
    Check.read(x, "m3,1;s0;");
    c.due("fault()", x.fault(), 2);
    Check.read(x, "m4,1;s0;");
    c.due("fault() stays the latest", x.fault(), 2);
    Check.read(x, "m");
    c.due("fault() of the next", x.fault(), 1);
  }

  private static void anew() {
    StepRiders x = Check.of("m9,1;s0;w1;");
    x.image(0);
    x.ticks(3);
    x.take(0);
    x.cross(1);
    c.due("another stair()", Check.read(x, "m5,2;t1;"), 1);
    c.due("TICK", x.count(3), 0);
    c.due("SPEED", x.count(4), 2);
    c.due("acts", x.count(8), 0);
    c.due("undo()", x.undo(), -1000002);
    c.due("where", x.rider(0, 0), -1);
    c.due("the other rider is gone", x.rider(1, 0), BAD);
    c.due("no step 5", x.step(5, 0), BAD);
    c.due("images stay", x.restore(0), 1);
    c.due("the image's riders", x.count(1), 2);
  }

  public static void main(String[] args) {
    feeding();
    reading();
    faults();
    latestFault();
    anew();
    c.end("TapeTest");
  }
}
