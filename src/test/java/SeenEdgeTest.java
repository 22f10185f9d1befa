/** The edges of promises 24 to 28 and of chapter 3 from what a row tells on: what fits, chances, years, images. */
public final class SeenEdgeTest {
  private static final Check c = new Check();

  private static int[] at(int... places) { return places; }

  /** What fits where a rider was seen, what = 0 on. */
  private static void fits(StepRiders x, int rider, int[] seen, int... want) {
    Check.row(x, 7, seen);
    for (int what = 0; what < want.length; what++)
      c.due("fits(" + rider + ", .., " + seen.length + ", " + what + ") from " + seen[0], x.fits(rider, 7, 0, seen.length, what), want[what]);
  }

  // ---- what fits

  @Holds({"n ITEMS of a ROW from i on. BAD: RIDER, ROW, n, what; NULL; PLACE.", "behind each of n TICKS (1 to 12) from now on."})
  static void fitsNumbers() {
    StepRiders none = new StepRiders();
    none.row(0, 0, 12);
    c.due("no stair", none.fits(0, 0, 0, 1, 0), Check.BAD);
    c.due("no stair, no row", none.fits(0, 1, 0, 1, 0), Check.BAD);
    StepRiders x = Check.of("m12,0;s0;t0;");
    x.row(0, 2, 40);
    x.ticks(1);
    int max = Check.MAX, min = Check.MIN;
    c.all(x, "fits", Check.BAD, new int[][] {{-1, 0, 0, 1, 0}, {2, 0, 0, 1, 0}, {7, 0, 0, 1, 0}, {min, 0, 0, 1, 0}, {max, 0, 0, 1, 0}});
    c.all(x, "fits", Check.BAD, new int[][] {{0, -1, 0, 1, 0}, {0, 8, 0, 1, 0}, {0, min, 0, 1, 0}, {0, max, 0, 1, 0}});
    c.all(x, "fits", Check.BAD, new int[][] {{0, 0, 0, 0, 0}, {0, 0, 0, 13, 0}, {0, 0, 0, -1, 0}, {0, 0, 0, min, 0}, {0, 0, 0, max, 0}});
    c.all(x, "fits", Check.BAD, new int[][] {{0, 0, 0, 1, -1}, {0, 0, 0, 1, 4}, {0, 0, 0, 1, min}, {0, 0, 0, 1, max}});
    c.all(x, "fits", Check.BAD, new int[][] {{2, 1, 0, 1, 0}, {0, 1, 0, 0, 0}, {0, 1, 0, 13, 0}, {0, 1, 0, 1, 4}, {0, 0, -1, 0, 0}});
    c.all(x, "fits", Check.NULL, new int[][] {{0, 1, 0, 1, 0}, {0, 7, 0, 12, 3}, {1, 1, 0, 1, 3}, {0, 1, -1, 1, 0}, {0, 1, 40, 12, 0}});
    c.all(x, "fits", Check.PLACE, new int[][] {{0, 0, -1, 1, 0}, {0, 0, 40, 1, 0}, {0, 0, 29, 12, 0}, {0, 0, min, 1, 0}, {0, 0, max, 12, 0},
        {1, 0, 40, 1, 3}, {0, 0, -1, 12, 2}});
    c.due("one tick", x.fits(0, 0, 0, 1, 0), 50);
    c.due("twelve ticks", x.fits(0, 0, 0, 12, 0), 50);
    c.due("the last item", x.fits(0, 0, 39, 1, 0), 50);
    c.due("the last twelve", x.fits(0, 0, 28, 12, 0), 50);
    x.set(0, 39, 1);
    c.due("the last of twelve is wrong", x.fits(0, 0, 28, 12, 0), 0);
    c.due("eleven of them", x.fits(0, 0, 28, 11, 0), 50);
    x.set(0, 28, 1);
    c.due("the first is wrong", x.fits(0, 0, 28, 11, 0), 0);
    c.due("from the second on", x.fits(0, 0, 29, 10, 0), 50);
  }

  @Holds({"A row tells where a RIDER is (as ahead)"})
  static void rowsAsAhead() {
    StepRiders x = Check.of("m4,0;s0;s0;s1;");
    x.take(2);
    x.ticks(1);
    for (int w = 0; w < 3; w++) {
      x.row(w, w, 3);
      x.set(w, 1, -1);
      x.set(w, 2, 99);
      c.due("on a step", x.fits(0, w, 0, 1, 1), 3);
      c.due("in the queue", x.fits(1, w, 1, 1, 1), 1);
      c.due("off", x.fits(2, w, 2, 1, 1), 3);
      c.due("not in the queue", x.fits(0, w, 1, 1, 1), 0);
      c.due("not off", x.fits(1, w, 2, 1, 1), 0);
    }
    fits(x, 2, at(99 + 256), 0, 0, 0, 0);
    fits(x, 2, at(98), 0, 0, 0, 0);
    fits(x, 2, at(100), 0, 0, 0, 0);
    fits(x, 1, at(-2), 0, 0, 0, 0);
    fits(x, 1, at(Check.MIN), 0, 0, 0, 0);
    // the STEP beyond the uppermost is nowhere
    for (int m : new int[] {4, 12})
      for (int speed = 0; speed < 3; speed++) {
        StepRiders y = Check.of("m" + m + "," + speed + ";w0;");
        y.ticks(1);
        fits(y, 0, at(m), 0, 0, 0, 0);
        fits(y, 0, at(m + 1), 0, 0, 0, 0);
      }
  }

  @Holds({"SORTS: KINDS (bits 1 to 5) of it by which it is so (also if its places are not FREE for it then);"})
  static void sortsThatFit() {
    StepRiders x = Check.of("m12,1;s0;");
    fits(x, 0, at(0), 62);
    fits(x, 0, at(0, 1), 1 << 1 | 1 << 4 | 1 << 5);
    fits(x, 0, at(0, 1, 2, 3), 1 << 1 | 1 << 4);
    fits(x, 0, at(0, 1, 2, 2), 1 << 5);
    fits(x, 0, at(0, 2, 4), 1 << 2);
    fits(x, 0, at(0, 3, 6), 1 << 3);
    fits(x, 0, at(0, 4), 0);
    fits(x, 0, at(-1), 0);
    // beside another, where there is no room for a trunk or a child
    StepRiders y = Check.of("m12,0;s0;s1;");
    y.ticks(2);
    c.places("side by side", y, "0 0");
    fits(y, 0, at(0), 1 << 1 | 1 << 4 | 1 << 5);
    fits(y, 1, at(0), 1 << 1 | 1 << 4 | 1 << 5);
    y.speed(1);
    // (a child goes down in the second tick, an odd one)
    fits(y, 0, at(1), 1 << 1 | 1 << 4 | 1 << 5);
    fits(y, 0, at(1, 2), 1 << 1 | 1 << 4);
    fits(y, 0, at(1, 1), 1 << 5);
    c.due("the kind stays", y.kind(0), 1);
  }

  @Holds("SIDES: LANES (bits 0, 1) of it (likewise);")
  static void sidesThatFit() {
    StepRiders x = Check.of("m12,0;s0;s1;");
    x.ticks(2);
    c.places("side by side", x, "0 0");
    Check.row(x, 7, 0, 0);
    c.due("also where the other is", x.fits(0, 7, 0, 2, 1), 3);
    c.due("also where the other is", x.fits(1, 7, 0, 2, 1), 3);
    StepRiders y = Check.of("m12,1;s0;w1;");
    y.ticks(2);
    c.places("one behind the other", y, "1 0");
    Check.row(y, 7, 1);
    c.due("held up in lane 0", y.fits(1, 7, 0, 1, 1), 1);
    Check.row(y, 7, 2);
    c.due("not in lane 1", y.fits(1, 7, 0, 1, 1), 2);
    Check.row(y, 7, 3);
    c.due("in none", y.fits(1, 7, 0, 1, 1), 0);
    c.same("lanes stay", Check.lanes(y), "0 1");
  }

  @Holds("(of several on one STEP those in LANE 0 first, of these the least),")
  static void theLeastOfOneLaneFirst() {
    StepRiders x = Check.of("m12,1;t0;w0;w1;");
    x.ticks(4);
    c.places("two behind a trunk", x, "3 2 2");
    x.speed(0);
    x.take(0);
    // both tried in one lane: the first goes, and holds up the second
    Check.row(x, 6, 3);
    Check.row(x, 7, 2);
    c.due("the first goes in either lane", x.fits(1, 6, 0, 1, 1), 3);
    c.due("the first is held up in none", x.fits(1, 7, 0, 1, 1), 0);
    c.due("the second goes in its own lane", x.fits(2, 6, 0, 1, 1), 2);
    c.due("the second is held up in the first one's", x.fits(2, 7, 0, 1, 1), 1);
    x.ticks(1);
    c.places("each in its own lane", x, "99 3 3");
  }

  @Holds("SPEEDS (0 to 2, bits);")
  static void speedsThatFit() {
    StepRiders x = Check.of("m12,2;s0;");
    Check.row(x, 7, 0, 0);
    c.due("the first tick has it on the foot", x.fits(0, 7, 0, 1, 2), 7);
    c.due("0", x.fits(0, 7, 0, 2, 2), 1);
    x.set(7, 1, 1);
    c.due("1", x.fits(0, 7, 0, 2, 2), 2);
    x.set(7, 1, 2);
    c.due("2", x.fits(0, 7, 0, 2, 2), 4);
    x.set(7, 1, 3);
    c.due("none", x.fits(0, 7, 0, 2, 2), 0);
    x.ticks(6);
    c.places("below the uppermost", x, "10");
    Check.row(x, 7, 99);
    c.due("only by 2", x.fits(0, 7, 0, 1, 2), 4);
    x.speed(1);
    x.ticks(1);
    c.due("by 1 and 2", x.fits(0, 7, 0, 1, 2), 6);
    c.due("SPEED stays", x.count(4), 1);
  }

  @Holds({"STARTS: STEPS (bits) on which it might be now, if it is ON one now (that are FREE for it).",
      "`int fits(int rider, int row, int i, int n, int what)`: SORTS (what = 0), SIDES (1), SPEEDS (2), STARTS (3; 0: it is not ON) by where a RIDER is,"})
  static void startsThatFit() {
    StepRiders x = Check.of("m12,1;s0;");
    Check.row(x, 7, 0);
    c.due("in the queue", x.fits(0, 7, 0, 1, 3), 0);
    c.due("but that is where it is then", x.fits(0, 7, 0, 1, 1), 3);
    x.ticks(1);
    for (int step = 0; step < 11; step++) {
      x.set(7, 0, step + 1);
      c.due("from " + step, x.fits(0, 7, 0, 1, 3), 1 << step);
    }
    x.set(7, 0, 99);
    c.due("from the uppermost", x.fits(0, 7, 0, 1, 3), 1 << 11);
    x.speed(2);
    c.due("from the uppermost two", x.fits(0, 7, 0, 1, 3), 3 << 10);
    x.take(0);
    c.due("off", x.fits(0, 7, 0, 1, 3), 0);
    c.due("but that is where it is", x.fits(0, 7, 0, 1, 1), 3);
    StepRiders four = Check.of("m4,1;s0;");
    four.ticks(1);
    Check.row(four, 7, 99);
    c.due("from the uppermost of four", four.fits(0, 7, 0, 1, 3), 8);
    StepRiders y = Check.of("m12,1;s0;s0;t0;");
    y.ticks(3);
    c.places("three", y, "2 1 0");
    Check.row(y, 7, 1, 2, 3, 4);
    c.due("its own step", y.fits(1, 7, 1, 1, 3), 2);
    c.due("not where another is", y.fits(1, 7, 2, 1, 3), 0);
    c.due("nor where the trunk is", y.fits(1, 7, 0, 1, 3), 0);
    c.due("beyond them", y.fits(1, 7, 3, 1, 3), 8);
    y.cross(1);
    c.due("beside one in the other lane", y.fits(1, 7, 2, 1, 3), 4);
    c.due("a trunk not", y.fits(2, 7, 2, 1, 3), 0);
    c.due("nor there", y.fits(2, 7, 1, 1, 3), 0);
    c.due("a trunk where it is", y.fits(2, 7, 0, 1, 3), 1);
  }

  // ---- chances

  private static void chance(StepRiders x, int rider, int n, int tenths, int above, int below) {
    c.due("absent(" + rider + ", " + n + ", " + tenths + ", 0)", x.absent(rider, n, tenths, 0), above);
    c.due("absent(" + rider + ", " + n + ", " + tenths + ", 1)", x.absent(rider, n, tenths, 1), below);
  }

  @Holds({"`int absent(int rider, int n, int c, int what)`: ABSENT (c 0 to 10): above (what = 0), below (1). BAD."})
  static void absentNumbers() {
    c.due("no stair", new StepRiders().absent(0, 0, 0, 0), Check.BAD);
    StepRiders x = Check.of("m4,1;s0;s0;");
    int max = Check.MAX, min = Check.MIN;
    c.all(x, "absent", Check.BAD, new int[][] {{-1, 0, 0, 0}, {2, 0, 0, 0}, {7, 0, 0, 0}, {min, 0, 0, 0}, {max, 0, 0, 0}});
    c.all(x, "absent", Check.BAD, new int[][] {{0, -1, 0, 0}, {0, 61, 0, 0}, {0, min, 0, 0}, {0, max, 0, 0}});
    c.all(x, "absent", Check.BAD, new int[][] {{0, 0, -1, 0}, {0, 0, 11, 0}, {0, 0, min, 0}, {0, 0, max, 0}});
    c.all(x, "absent", Check.BAD, new int[][] {{0, 0, 0, -1}, {0, 0, 0, 2}, {0, 0, 0, min}, {0, 0, 0, max}});
  }

  @Holds({"ABSENT: each RIDER in the QUEUE is OFF now by c of 10, each by itself: that a RIDER is OFF behind n TICKS (0 to 60): a fraction."})
  static void absentByEach() {
    StepRiders x = Check.of("m4,1;s0;s0;");
    chance(x, 0, 0, 7, 7, 10);
    chance(x, 0, 4, 7, 7, 10);
    chance(x, 0, 5, 7, 1, 1);
    // behind five: it does not come, or it does and the one ahead does not
    chance(x, 1, 4, 3, 3, 10);
    chance(x, 1, 5, 3, 51, 100);
    chance(x, 1, 6, 3, 1, 1);
    chance(x, 1, 60, 3, 1, 1);
    x.ticks(1);
    c.places("the first is on", x, "0 -1");
    chance(x, 0, 0, 7, 0, 1);
    chance(x, 0, 3, 7, 0, 1);
    chance(x, 0, 4, 7, 1, 1);
    chance(x, 1, 4, 7, 7, 10);
    x.take(0);
    chance(x, 0, 0, 7, 1, 1);
    x.speed(0);
    chance(x, 1, 60, 7, 7, 10);
    x.ticks(1);
    chance(x, 1, 60, 7, 0, 1);
    c.due("nothing changes", x.count(7), 1);
    // seven in the queue: the last is off behind ten, if one of the seven does not come
    StepRiders seven = Check.of("m4,1;s0;s0;s0;s0;s0;s0;s0;");
    chance(seven, 6, 10, 1, 10000000 - 4782969, 10000000);
    chance(seven, 6, 10, 9, 9999999, 10000000);
    chance(seven, 6, 11, 9, 1, 1);
    chance(seven, 0, 4, 9, 9, 10);
  }

  @Holds("(c 0 to 10)")
  static void absentForSureAndNever() {
    StepRiders x = Check.of("m4,1;s0;s0;");
    chance(x, 0, 0, 0, 0, 1);
    chance(x, 0, 0, 10, 1, 1);
    chance(x, 1, 5, 0, 0, 1);
    chance(x, 1, 6, 0, 1, 1);
    chance(x, 1, 60, 0, 1, 1);
    chance(x, 1, 60, 10, 1, 1);
    chance(x, 1, 0, 1, 1, 10);
    chance(x, 1, 0, 9, 9, 10);
  }

  @Holds("All that is divided is cut towards 0, but fractions, told as two numbers in lowest terms (0 is 0 by 1).")
  static void lowestTerms() {
    StepRiders x = Check.of("m4,1;s0;s0;");
    int[][] terms = {{0, 1}, {1, 10}, {1, 5}, {3, 10}, {2, 5}, {1, 2}, {3, 5}, {7, 10}, {4, 5}, {9, 10}, {1, 1}};
    for (int tenths = 0; tenths <= 10; tenths++) chance(x, 0, 0, tenths, terms[tenths][0], terms[tenths][1]);
    chance(x, 1, 5, 5, 3, 4);
    chance(x, 1, 5, 2, 9, 25);
    StepRiders seven = Check.of("m4,1;s0;s0;s0;s0;s0;s0;s0;");
    chance(seven, 6, 10, 5, 127, 128);
    chance(seven, 6, 10, 0, 0, 1);
  }

  // ---- years

  @Holds({"`int drawn(int n, int seed, int what)`: YEARS by a SEED (1 to 999999): how often (what = 0), how many (1). BAD; STATE: no STAIR (ahead of BAD)."})
  static void drawnNumbers() {
    StepRiders none = new StepRiders();
    int max = Check.MAX, min = Check.MIN;
    c.all(none, "drawn", Check.STATE, new int[][] {{0, 1, 0}, {60, 999999, 1}, {-1, 1, 0}, {61, 1, 0}, {0, 0, 0}, {0, 1000000, 0}, {0, 1, 2}, {min, max, min}});
    StepRiders x = Check.of("m4,2;s0;s1;");
    c.all(x, "drawn", Check.BAD, new int[][] {{-1, 1, 0}, {61, 1, 0}, {min, 1, 0}, {max, 1, 0}});
    c.all(x, "drawn", Check.BAD, new int[][] {{0, 0, 0}, {0, -1, 0}, {0, 1000000, 0}, {0, min, 0}, {0, max, 0}});
    c.all(x, "drawn", Check.BAD, new int[][] {{0, 1, -1}, {0, 1, 2}, {0, 1, min}, {0, 1, max}});
    c.due("no year", x.drawn(0, 1, 0), 0);
    c.due("no year", x.drawn(0, 999999, 1), 0);
    x.take(1);
    c.due("no year, one is off", x.drawn(0, 1, 0) * 10 + x.drawn(0, 1, 1), 1);
  }

  /** A year as acts: how many went off by its tick. */
  private static int year(StepRiders y, long draw, int riders) {
    if (draw % 4 == 0) y.speed((int) (draw % 3));
    int rider = (int) (draw % riders);
    if (y.rider(rider, 0) == 99) y.again(rider, (int) (draw % 2));
    int before = y.count(7);
    return y.ticks(1) - before;
  }

  @Holds({"YEARS of n TICKS (0 to 60) by a SEED (X at first): ahead of each X becomes the rest of (X times 16807) by 2147483647; SPEED is the rest of X by 3, if X by 4 leaves 0; the RIDER that is the rest of X by how many there are comes to the QUEUE again, if it is OFF, in the LANE that is the rest of X by 2; then the TICK: how often anybody went OFF; how many are OFF at last."})
  static void yearsByDraws() {
    for (String text : new String[] {"m4,2;s0;", "m12,1;c0;w1;r0;t1;s0;r1;c1;", "m5,1;w0;w0;s1;t0;", "m4,0;r0;r1;"})
      for (int seed : new int[] {1, 2, 4, 7, 12, 999998, 999999}) {
        StepRiders x = Check.of(text);
        StepRiders y = Check.of(text);
        int riders = x.count(1);
        long draw = seed;
        int often = 0;
        for (int n = 0; n <= 60; n++) {
          c.due(text + " drawn(" + n + ", " + seed + ", 0)", x.drawn(n, seed, 0), often);
          c.due(text + " drawn(" + n + ", " + seed + ", 1)", x.drawn(n, seed, 1), y.count(7));
          draw = draw * 16807 % 2147483647L;
          often += year(y, draw, riders);
        }
        c.due("nothing changes", x.count(3) + x.count(7) + x.count(8), 0);
      }
  }

  // ---- images

  @Holds({"`int image(int k)`: An IMAGE (0, 1) is kept of the STAIR: 1. BAD; STATE: no STAIR."})
  static void imageNumbers() {
    StepRiders none = new StepRiders();
    c.all(none, "image", Check.BAD, new int[][] {{-1}, {2}, {Check.MIN}, {Check.MAX}});
    c.due("no stair", none.image(0), Check.STATE);
    c.due("no stair", none.image(1), Check.STATE);
    c.due("none was kept", none.restore(0), Check.STATE);
    StepRiders x = Check.of("m4,1;s0;");
    c.all(x, "image", Check.BAD, new int[][] {{-1}, {2}, {Check.MIN}, {Check.MAX}});
    c.due("image(0)", x.image(0), 1);
    x.ticks(2);
    c.due("image(1)", x.image(1), 1);
    c.due("no act", x.count(8), 2);
    x.restore(0);
    c.places("the first", x, "-1");
    x.restore(1);
    c.places("the second", x, "1");
    x.ticks(1);
    c.due("in place of it", x.image(1), 1);
    x.restore(0);
    c.places("the first stays", x, "-1");
    x.restore(1);
    c.places("the second is another", x, "2");
  }

  @Holds({"`int restore(int k)`: The STAIR is as an IMAGE kept it (no ACT can be undone then): 1. BAD; STATE: none was kept."})
  static void restoring() {
    StepRiders x = new StepRiders();
    c.all(x, "restore", Check.BAD, new int[][] {{-1}, {2}, {Check.MIN}, {Check.MAX}});
    c.due("none was kept", x.restore(0), Check.STATE);
    c.due("none was kept", x.restore(1), Check.STATE);
    Check.read(x, "m9,1;w0;s1;c1;t0;");
    x.ticks(3);
    x.speed(2);
    x.cross(2);
    x.take(1);
    x.image(1);
    c.due("none was kept of the first", x.restore(0), Check.STATE);
    c.due("acts are left by an image", x.count(8), 6);
    Check.read(x, "m4,0;r1;");
    x.ticks(5);
    c.due("restore(1)", x.restore(1), 1);
    int[] want = {0, 4, 9, 3, 2, 1, 2, 1, 0, 0};
    for (int k = 0; k < 10; k++) c.due("count(" + k + ")", x.count(k), want[k]);
    c.places("as kept", x, "4 99 0 -1");
    c.same("lanes as kept", Check.lanes(x), "0 1 0 0");
    c.due("kinds as kept", x.kind(0) * 1000 + x.kind(1) * 100 + x.kind(2) * 10 + x.kind(3), 2154);
    c.due("undo()", x.undo(), Check.STATE);
    x.ticks(2);
    c.due("acts from then on", x.undo(), 1);
    x.ticks(24);
    c.due("once more", x.restore(1), 1);
    c.places("as kept", x, "4 99 0 -1");
    c.due("TICK as kept", x.count(3), 3);
    c.due("undo()", x.undo(), Check.STATE);
  }

  @Holds("The STAIR is as an IMAGE kept it")
  static void restoringLeavesTheRest() {
    StepRiders x = Check.of("m4,1;s0;");
    x.image(0);
    Check.row(x, 2, 3, 4);
    Check.read(x, "m3");
    x.ask(0, 0);
    Check.feed(x, "m5");
    x.set(2, 2, 0);
    x.restore(0);
    c.due("rows", x.count(0), 1);
    c.due("the tape", x.count(9), 2);
    c.due("the fault", x.fault(), 2);
    c.due("the trace", x.trace(0), 11);
    c.due("status()", x.status(), 2);
    c.same("the items", Check.items(x, 2), "3 4");
  }

  public static void main(String[] args) {
    c.runAll(SeenEdgeTest.class);
  }
}
