/** Promises 24 to 28: what fits, chances, years by draws, images. */
public final class SeenTest {
  private static final int BAD = -1000001, STATE = -1000002, NULL = -1000011, PLACE = -1000012;
  private static final Check c = new Check();

  private static void fits(StepRiders x, int rider, int[] seen, int... want) {
    Check.row(x, 7, seen);
    for (int what = 0; what < want.length; what++)
      c.due("fits(" + rider + ", .., " + seen.length + ", " + what + ")", x.fits(rider, 7, 0, seen.length, what), want[what]);
    c.due("status()", x.status(), 0);
  }

  private static int[] at(int... places) { return places; }

  private static void refusals() {
    StepRiders none = new StepRiders();
    none.row(0, 0, 3);
    c.due("fits without a stair", none.fits(0, 0, 0, 1, 0), BAD);
    StepRiders x = Check.of("m6,1;s0;");
    Check.row(x, 0, 0, 1, 2);
    c.due("rider", x.fits(1, 0, 0, 1, 0), BAD);
    c.due("rider", x.fits(-1, 0, 0, 1, 0), BAD);
    c.due("row", x.fits(0, 8, 0, 1, 0), BAD);
    c.due("row", x.fits(0, -1, 0, 1, 0), BAD);
    c.due("n", x.fits(0, 0, 0, 0, 0), BAD);
    c.due("n", x.fits(0, 0, 0, 13, 0), BAD);
    c.due("what", x.fits(0, 0, 0, 1, 4), BAD);
    c.due("what", x.fits(0, 0, 0, 1, -1), BAD);
    c.due("status() is left by BAD", x.status(), 0);
    c.due("missing", x.fits(0, 1, 0, 1, 0), NULL);
    c.due("status()", x.status(), 1);
    c.due("BAD is ahead of NULL", x.fits(0, 1, 0, 0, 0), BAD);
    c.due("NULL is ahead of PLACE", x.fits(0, 1, -1, 1, 0), NULL);
    c.due("i", x.fits(0, 0, -1, 1, 0), PLACE);
    c.due("i", x.fits(0, 0, 3, 1, 0), PLACE);
    c.due("i and n", x.fits(0, 0, 1, 3, 0), PLACE);
    c.due("i at its most", x.fits(0, 0, Integer.MAX_VALUE, 12, 0), PLACE);
    c.due("status()", x.status(), 2);
    c.due("to the end", x.fits(0, 0, 0, 3, 1), 3);
    c.due("status()", x.status(), 0);
  }

  private static void fitting() {
    StepRiders x = Check.of("m6,1;s0;");
    fits(x, 0, at(0), 62, 3, 7, 0);
    fits(x, 0, at(0, 1, 2, 3), 1 << 1 | 1 << 4, 3, 2, 0);
    fits(x, 0, at(0, 1, 2, 2), 1 << 5, 0, 0, 0);
    fits(x, 0, at(0, 2, 4, 99), 1 << 2, 0, 4, 0);
    fits(x, 0, at(0, 3, 99, 99), 1 << 3, 0, 0, 0);
    fits(x, 0, at(0, 0, 0, 0), 0, 0, 1, 0);
    fits(x, 0, at(-1), 0, 0, 0, 0);
    x.ticks(1);
    // (a child on step 0 cannot go down in the odd tick)
    fits(x, 0, at(1, 2), 1 << 1 | 1 << 4 | 1 << 5, 3, 2, 1);
    fits(x, 0, at(4, 5, 99), 0, 0, 0, 8);
    fits(x, 0, at(99), 0, 0, 0, 32);
    x.take(0);
    fits(x, 0, at(99, 99, 99, 99, 99, 99, 99, 99, 99, 99, 99, 99), 62, 3, 7, 0);
    fits(x, 0, at(99, 0), 0, 0, 0, 0);
    fits(x, 0, at(99 + 256), 0, 0, 0, 0);
  }

  private static void fittingBesideOthers() {
    StepRiders x = Check.of("m6,1;s0;s0;");
    x.ticks(2);
    c.places("two behind each other", x, "1 0");
    fits(x, 1, at(3), 0, 0, 0, 4);
    fits(x, 1, at(2), 0, 0, 4, 0);
    fits(x, 1, at(99), 0, 0, 0, 32);
    fits(x, 0, at(2), 1 << 1 | 1 << 4 | 1 << 5, 3, 2, 2);
    // one who walks or runs is held up as well; a child goes down in the second tick
    fits(x, 1, at(1, 2), 62 - 32, 3, 2, 1);
    // one step with two riders: one of them may be tried where there is no room for it
    StepRiders y = Check.of("m6,1;s1;w1;w0;");
    y.ticks(4);
    c.places("beside each other", y, "3 2 2");
    y.speed(0);
    fits(y, 1, at(3, 4), 0, 1);
    fits(y, 1, at(2, 2), 1 << 1 | 1 << 2 | 1 << 3 | 1 << 4, 2);
    fits(y, 1, at(2, 1), 1 << 5, 0);
  }

  private static void absent() {
    c.due("absent without a stair", new StepRiders().absent(0, 0, 0, 0), BAD);
    StepRiders x = Check.of("m4,1;s0;s0;");
    int[][] wrong = {{2, 0, 0, 0}, {-1, 0, 0, 0}, {0, -1, 0, 0}, {0, 61, 0, 0}, {0, 0, -1, 0}, {0, 0, 11, 0}, {0, 0, 0, 2}, {0, 0, 0, -1}};
    for (int[] w : wrong) c.due("absent " + w[0] + w[1] + w[2] + w[3], x.absent(w[0], w[1], w[2], w[3]), BAD);
    // one comes in the first tick, the other in the second, or in the first if that one does not come
    chance(x, 1, 4, 3, 3, 10);
    chance(x, 1, 5, 3, 51, 100);
    chance(x, 1, 6, 3, 1, 1);
    chance(x, 1, 5, 0, 0, 1);
    chance(x, 1, 5, 5, 3, 4);
    chance(x, 1, 0, 10, 1, 1);
    chance(x, 0, 0, 4, 2, 5);
    chance(x, 0, 60, 0, 1, 1);
    x.ticks(1);
    chance(x, 0, 3, 9, 0, 1);
    chance(x, 0, 4, 9, 1, 1);
    chance(x, 1, 4, 1, 1, 10);
    x.take(1);
    chance(x, 1, 0, 0, 1, 1);
    x.speed(0);
    chance(x, 0, 60, 5, 0, 1);
    StepRiders seven = Check.of("m4,1;s0;s0;s0;s0;s0;s0;s0;");
    // the last does not come, or it comes and one of the six ahead of it does not: .1 and .9 times (1 - .9^6)
    chance(seven, 6, 10, 1, 1000000 + 9 * (1000000 - 531441), 10000000);
  }

  private static void chance(StepRiders x, int rider, int n, int tenths, int above, int below) {
    c.due("absent(" + rider + ", " + n + ", " + tenths + ", 0)", x.absent(rider, n, tenths, 0), above);
    c.due("absent(" + rider + ", " + n + ", " + tenths + ", 1)", x.absent(rider, n, tenths, 1), below);
  }

  private static void drawn() {
    StepRiders none = new StepRiders();
    c.due("drawn without a stair", none.drawn(0, 1, 0), STATE);
    c.due("STATE is ahead of BAD", none.drawn(-1, 0, 2), STATE);
    StepRiders x = Check.of("m4,2;s0;");
    int[][] wrong = {{-1, 1, 0}, {61, 1, 0}, {0, 0, 0}, {0, -1, 0}, {0, 1000000, 0}, {0, 1, 2}, {0, 1, -1}};
    for (int[] w : wrong) c.due("drawn(" + w[0] + ", " + w[1] + ", " + w[2] + ")", x.drawn(w[0], w[1], w[2]), BAD);
    c.due("drawn(0, 999999, 0)", x.drawn(0, 999999, 0), 0);
    c.due("drawn(0, 999999, 1)", x.drawn(0, 999999, 1), 0);
    // X is 16807, 282475249, 1622650073, 984943658, 1144108930: none leaves 0 by 4; off in the third
    // tick, to the queue again ahead of the fourth, on in it, 2 in the fifth, off in the sixth (470211272
    // leaves 0 by 4 and 2 by 3)
    int[] often = {0, 0, 0, 1, 1, 1, 2};
    int[] last = {0, 0, 0, 1, 0, 0, 1};
    for (int n = 0; n < often.length; n++) {
      c.due("drawn(" + n + ", 1, 0)", x.drawn(n, 1, 0), often[n]);
      c.due("drawn(" + n + ", 1, 1)", x.drawn(n, 1, 1), last[n]);
    }
    c.due("nothing has changed", x.count(3) + x.count(8) + x.count(7), 0);
    x.take(0);
    c.due("drawn(0, 1, 1)", x.drawn(0, 1, 1), 1);
    // it comes to the queue ahead of the first tick, on in it, off in the third
    c.due("drawn(2, 1, 0)", x.drawn(2, 1, 0), 0);
    c.due("drawn(3, 1, 0)", x.drawn(3, 1, 0), 1);
    // 4 times 16807 leaves 0 by 4 and 1 by 3: the speed is 1 from the first tick on
    StepRiders y = Check.of("m4,2;s0;");
    c.due("drawn(3, 4, 0): 2 ticks at speed 2 would do", y.drawn(3, 4, 0), 0);
  }

  private static void images() {
    StepRiders none = new StepRiders();
    c.due("image(0) without a stair", none.image(0), STATE);
    c.due("image(2): BAD is ahead", none.image(2), BAD);
    c.due("image(-1)", none.image(-1), BAD);
    c.due("restore(0): none", none.restore(0), STATE);
    c.due("restore(2)", none.restore(2), BAD);
    c.due("restore(-1)", none.restore(-1), BAD);
    StepRiders x = Check.of("m8,1;s0;w1;c0;");
    x.ticks(3);
    x.cross(2);
    c.due("image(1)", x.image(1), 1);
    c.due("an image is no act", x.count(8), 4);
    c.due("restore(0): none of that number", x.restore(0), STATE);
    c.due("undo() is left", x.undo(), 3);
    Check.read(x, "m5,2;t1;t0;");
    x.ticks(2);
    c.due("image(0)", x.image(0), 1);
    c.due("restore(1)", x.restore(1), 1);
    c.due("no act can be undone", x.undo(), STATE);
    c.places("as it was", x, "2 2 0");
    int[] want = {0, 3, 8, 3, 1, 0, 3, 0, 0, 0};
    for (int k = 0; k < 10; k++) c.due("count(" + k + ")", x.count(k), want[k]);
    c.due("lane", x.rider(2, 1), 1);
    c.due("kinds", x.kind(0) * 100 + x.kind(1) * 10 + x.kind(2), 125);
    x.ticks(5);
    x.speed(0);
    c.due("restore(1) once more", x.restore(1), 1);
    c.places("as it was", x, "2 2 0");
    c.due("SPEED", x.count(4), 1);
    c.due("restore(0)", x.restore(0), 1);
    c.places("as the other was", x, "2 0");
    c.due("STEPS", x.count(2), 5);
    x.take(0);
    c.due("image(0) in place of it", x.image(0), 1);
    x.undo();
    x.restore(0);
    c.places("as it is kept now", x, "99 0");
  }

  public static void main(String[] args) {
    refusals();
    fitting();
    fittingBesideOthers();
    absent();
    drawn();
    images();
    c.end("SeenTest");
  }
}
