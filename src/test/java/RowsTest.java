/** Promises 1 to 5 and, for rows, 34. What rows hold is seen through fits: a stander at speed 1 is at 0, 1, 2, .. */
public final class RowsTest {
  private static final int BAD = -1000001, NULL = -1000011, PLACE = -1000012, SIZE = -1000014, STORE = -1000015;
  private static final int MIN = Integer.MIN_VALUE, MAX = Integer.MAX_VALUE;
  private static final Check c = new Check();

  private static void newObject() {
    StepRiders x = new StepRiders();
    for (int k = 0; k < 10; k++) c.due("new: count(" + k + ")", x.count(k), 0);
    c.due("new: status()", x.status(), 0);
    c.due("new: fault()", x.fault(), 0);
    c.due("new: clear()", x.clear(), -1000002);
    c.due("new: trace(0)", x.trace(0), -1000000);
    for (int r = 0; r < 8; r++) c.due("new: drop(" + r + ")", x.drop(r), NULL);
  }

  private static void row() {
    StepRiders x = new StepRiders();
    c.due("row(-1, 0, 1)", x.row(-1, 0, 1), BAD);
    c.due("row(8, 0, 1)", x.row(8, 0, 1), BAD);
    c.due("row(0, -1, 1)", x.row(0, -1, 1), BAD);
    c.due("row(0, 3, 1)", x.row(0, 3, 1), BAD);
    c.due("row(0, 0, 41)", x.row(0, 0, 41), BAD);
    c.due("row(0, 0, MAX)", x.row(0, 0, MAX), BAD);
    c.due("row(8, 0, -1): BAD is ahead of SIZE", x.row(8, 0, -1), BAD);
    c.due("status() of none", x.status(), 0);
    c.due("row(0, 0, 40)", x.row(0, 0, 40), 40);
    c.due("row(7, 2, 0)", x.row(7, 2, 0), 0);
    c.due("count(0)", x.count(0), 2);
    c.due("row(0, 2, -1)", x.row(0, 2, -1), SIZE);
    c.due("row(0, 2, MIN)", x.row(0, 2, MIN), SIZE);
    c.due("status() of SIZE", x.status(), 4);
    c.due("row(9, 0, 0)", x.row(9, 0, 0), BAD);
    c.due("status() is left by BAD", x.status(), 4);
    c.due("row 0 is left by SIZE", x.set(0, 39, 200), -56);
    c.due("status() of a call without one", x.status(), 0);
    c.due("row(0, 1, 2) in place of it", x.row(0, 1, 2), 2);
    c.due("set(0, 1, 200) is a short now", x.set(0, 1, 200), 200);
    c.due("set(0, 2, 0)", x.set(0, 2, 0), PLACE);
    c.due("count(0)", x.count(0), 2);
  }

  private static void set() {
    StepRiders x = new StepRiders();
    x.row(0, 0, 3);
    x.row(1, 1, 3);
    x.row(2, 2, 3);
    int[][] bytes = {{127, 127}, {128, -128}, {255, -1}, {256, 0}, {-129, 127}, {MIN, 0}, {MAX, -1}};
    for (int[] b : bytes) c.due("set(0, 0, " + b[0] + ")", x.set(0, 0, b[0]), b[1]);
    int[][] shorts = {{32767, 32767}, {32768, -32768}, {65535, -1}, {65536, 0}, {-32769, 32767}, {MIN, 0}, {MAX, -1}};
    for (int[] b : shorts) c.due("set(1, 0, " + b[0] + ")", x.set(1, 0, b[0]), b[1]);
    for (int v : new int[] {0, 65536, MIN, MAX}) c.due("set(2, 2, " + v + ")", x.set(2, 2, v), v);
    c.due("set(-1, 0, 0)", x.set(-1, 0, 0), BAD);
    c.due("set(8, 0, 0)", x.set(8, 0, 0), BAD);
    c.due("set(3, 0, 0)", x.set(3, 0, 0), NULL);
    c.due("status()", x.status(), 1);
    c.due("set(3, -1, 0): NULL is ahead of PLACE", x.set(3, -1, 0), NULL);
    c.due("set(2, -1, 0)", x.set(2, -1, 0), PLACE);
    c.due("status()", x.status(), 2);
    c.due("set(2, 3, 0)", x.set(2, 3, 0), PLACE);
    c.due("set(2, MIN, 0)", x.set(2, MIN, 0), PLACE);
    c.due("set(2, MAX, 0)", x.set(2, MAX, 0), PLACE);
    c.due("set(MAX, 0, 0)", x.set(MAX, 0, 0), BAD);
    c.due("status() is left by BAD", x.status(), 2);
  }

  private static boolean tells(StepRiders x, int row, int i, int n) {
    return (x.fits(0, row, i, n, 0) & 2) != 0;
  }

  private static void copy() {
    StepRiders x = Check.of("m12,1;s0;");
    Check.row(x, 0, 9, 0, 1, 2, 3);
    c.due("copy to the front", x.copy(0, 1, 0, 0, 4), 4);
    c.so("0 1 2 3", tells(x, 0, 0, 4));
    Check.row(x, 0, 0, 1, 2, 3, 9);
    c.due("copy to the back, over itself", x.copy(0, 0, 0, 1, 4), 4);
    c.so("0 1 2 3 behind the first", tells(x, 0, 1, 4));
    c.so("the first stays", tells(x, 0, 0, 1));
    Check.row(x, 1, 5, 5, 5);
    c.due("copy to another", x.copy(0, 1, 1, 1, 2), 2);
    c.so("0 1 in the other", tells(x, 1, 1, 2));
    c.so("not ahead of them", !tells(x, 1, 0, 1));
    c.due("none at the ends", x.copy(0, 5, 1, 3, 0), 0);
    c.due("all", x.copy(1, 0, 0, 2, 3), 3);
    c.due("status()", x.status(), 0);
    c.due("copy(8, ..)", x.copy(8, 0, 0, 0, 0), BAD);
    c.due("copy(.., -1, ..)", x.copy(0, 0, -1, 0, 0), BAD);
    c.due("a is missing", x.copy(2, 0, 0, 0, 0), NULL);
    c.due("b is missing", x.copy(0, 0, 2, 0, 0), NULL);
    x.row(3, 1, 3);
    c.due("two widths", x.copy(0, 0, 3, 0, 1), STORE);
    c.due("status()", x.status(), 5);
    c.due("NULL is ahead of PLACE", x.copy(2, -1, 0, 0, 0), NULL);
    c.due("STORE is ahead of PLACE", x.copy(0, -1, 3, 0, -1), STORE);
    c.due("STORE of none", x.copy(0, 0, 3, 0, 0), STORE);
    int[][] places = {{-1, 0, 1}, {0, -1, 1}, {0, 0, -1}, {5, 0, 1}, {0, 3, 1}, {3, 0, 3}, {0, 1, 3}, {6, 0, 0},
        {0, 4, 0}, {MAX, 0, MAX}, {1, 1, MAX}, {MIN, MIN, MIN}, {0, MAX, 1}};
    for (int[] p : places)
      c.due("copy(0, " + p[0] + ", 1, " + p[1] + ", " + p[2] + ")", x.copy(0, p[0], 1, p[1], p[2]), PLACE);
    c.due("status()", x.status(), 2);
  }

  private static void zeros() {
    StepRiders x = Check.of("m4,0;s0;");
    x.row(0, 2, 12);
    c.due("all items are 0 at first", x.fits(0, 0, 0, 12, 1), 3);
    for (int i = 0; i < 12; i++) x.set(0, i, 7);
    c.due("they are 7", x.fits(0, 0, 0, 12, 1), 0);
    x.row(0, 2, 12);
    c.due("all items are 0 again in one made anew", x.fits(0, 0, 0, 12, 1), 3);
    for (int i = 0; i < 12; i++) x.set(0, i, 7);
    x.drop(0);
    x.row(0, 1, 12);
    c.due("and behind drop", x.fits(0, 0, 0, 12, 1), 3);
  }

  private static void drop() {
    StepRiders x = new StepRiders();
    x.row(0, 0, 40);
    x.row(1, 1, 0);
    c.due("drop(0)", x.drop(0), 40);
    c.due("count(0)", x.count(0), 1);
    c.due("drop(1)", x.drop(1), 0);
    c.due("drop(1) again", x.drop(1), NULL);
    c.due("status()", x.status(), 1);
    c.due("set in it", x.set(0, 0, 0), NULL);
    c.due("drop(-1)", x.drop(-1), BAD);
    c.due("drop(8)", x.drop(8), BAD);
    c.due("count(0)", x.count(0), 0);
  }

  public static void main(String[] args) {
    newObject();
    row();
    set();
    copy();
    zeros();
    drop();
    c.end("RowsTest");
  }
}
