import java.util.Collections;

/** The edges of promises 1 to 5, of chapter 1's rows, and of promise 34 for calls with a row. */
public final class RowsEdgeTest {
  private static final Check c = new Check();

  private static String zeros(int n) {
    return String.join(" ", Collections.nCopies(n, "0"));
  }

  @Holds({"`StepRiders()`: No STAIR.", "(none at first)"})
  static void noStairAtFirst() {
    StepRiders x = new StepRiders();
    c.due("count(1)", x.count(1), 0);
    c.due("count(2)", x.count(2), 0);
    c.due("clear()", x.clear(), Check.STATE);
    c.due("image(0)", x.image(0), Check.STATE);
    c.due("rider(0, 0)", x.rider(0, 0), Check.BAD);
  }

  @Holds({"ROWS 0 .. 7 are missing (at first)", "1 NULL (a ROW that is missing)"})
  static void rowsAreMissingAtFirst() {
    StepRiders x = Check.of("m4,1;s0;");
    for (int r = 0; r < 8; r++) {
      c.due("set(" + r + ", 0, 0)", x.set(r, 0, 0), Check.NULL);
      c.due("copy(" + r + ", ..)", x.copy(r, 0, r, 0, 0), Check.NULL);
      c.due("drop(" + r + ")", x.drop(r), Check.NULL);
      c.due("fits(0, " + r + ", ..)", x.fits(0, r, 0, 1, 0), Check.NULL);
    }
    c.due("count(0)", x.count(0), 0);
  }

  @Holds("BAD: ROW, WIDTH, n above 40; SIZE.")
  static void rowNumbers() {
    StepRiders x = new StepRiders();
    c.all(x, "row", Check.BAD, new int[][] {{-1, 0, 1}, {8, 0, 1}, {Check.MIN, 0, 1}, {Check.MAX, 0, 1}});
    c.all(x, "row", Check.BAD, new int[][] {{0, -1, 1}, {0, 3, 1}, {0, Check.MIN, 1}, {0, Check.MAX, 1}});
    c.all(x, "row", Check.BAD, new int[][] {{0, 0, 41}, {0, 0, Check.MAX}});
    c.due("none was made", x.count(0), 0);
    c.due("row(0, 0, 1)", x.row(0, 0, 1), 1);
    c.due("row(7, 2, 1)", x.row(7, 2, 1), 1);
    c.due("count(0)", x.count(0), 2);
  }

  @Holds("or have a WIDTH (0 bytes, 1 shorts, 2 ints)")
  static void rowWidths() {
    int[] five = {44, 300, 65836};
    for (int w = 0; w < 3; w++) {
      StepRiders x = new StepRiders();
      x.row(0, w, 1);
      c.due("65836 at width " + w, x.set(0, 0, 65836), new int[] {44, 300, 65836}[w]);
      x.row(1, w, 1);
      c.due("copy at width " + w, x.copy(0, 0, 1, 0, 1), 1);
      c.due("one and the same", x.set(1, 0, 65836), five[w]);
    }
  }

  @Holds({"and 0 to 40 ITEMS, 0 at first", "`int row(int row, int width, int n)`: A ROW of a WIDTH with n ITEMS"})
  static void rowOfNoneAndOfForty() {
    StepRiders x = new StepRiders();
    c.due("row(3, 1, 0)", x.row(3, 1, 0), 0);
    c.due("it is there", x.count(0), 1);
    c.due("without a place", x.set(3, 0, 1), Check.PLACE);
    c.same("its items", Check.items(x, 3), "");
    c.due("row(4, 0, 40)", x.row(4, 0, 40), 40);
    c.same("its items", Check.items(x, 4), zeros(40));
    c.due("set(4, 39, 1)", x.set(4, 39, 1), 1);
    c.due("set(4, 40, 1)", x.set(4, 40, 1), Check.PLACE);
    c.same("its items", Check.items(x, 4), zeros(39) + " 1");
    for (int r = 0; r < 8; r++) c.due("row " + r + " of 40", x.row(r, 2, 40), 40);
    c.due("all eight", x.count(0), 8);
  }

  @Holds("in place of what is there: n.")
  static void rowInPlaceOfAnother() {
    StepRiders x = new StepRiders();
    Check.row(x, 0, 5, 6, 7);
    Check.row(x, 1, 8, 9);
    c.due("a shorter one", x.row(0, 0, 2), 2);
    c.due("of another width", x.set(0, 0, 300), 44);
    x.set(0, 0, 0);
    c.due("still two rows", x.count(0), 2);
    c.due("no third item", x.set(0, 2, 1), Check.PLACE);
    c.due("a longer one", x.row(0, 2, 4), 4);
    c.same("all items are 0 again", Check.items(x, 0), "0 0 0 0");
    c.same("the other stays", Check.items(x, 1), "8 9");
    for (int w = 0; w < 3; w++) {
      x.row(2, w, 40);
      for (int i = 0; i < 40; i++) x.set(2, i, 1 + i % 11);
      x.row(2, 2 - w, 40);
      c.same("none of forty is left", Check.items(x, 2), zeros(40));
    }
  }

  @Holds("4 SIZE (fewer than none)")
  static void rowOfFewerThanNone() {
    StepRiders x = new StepRiders();
    c.due("row(0, 0, -1)", x.row(0, 0, -1), Check.SIZE);
    c.due("row(0, 2, MIN)", x.row(0, 2, Check.MIN), Check.SIZE);
    c.due("it is missing still", x.drop(0), Check.NULL);
    Check.row(x, 0, 5, 6);
    c.due("row(0, 0, -1)", x.row(0, 0, -1), Check.SIZE);
    c.due("status()", x.status(), 4);
    c.due("the width stays", x.set(0, 0, 65836), 65836);
    x.set(0, 0, 5);
    c.same("the items stay", Check.items(x, 0), "5 6");
  }

  @Holds("`int set(int row, int i, int v)`: ITEM i becomes v, its lowest bits, as many as the WIDTH has: what it is then.")
  static void setCutsToTheWidth() {
    StepRiders x = new StepRiders();
    x.row(0, 0, 1);
    x.row(1, 1, 1);
    x.row(2, 2, 1);
    int[][] bytes = {{-128, -128}, {-129, 127}, {127, 127}, {128, -128}, {255, -1}, {256, 0}, {261, 5}, {Check.MAX, -1}, {Check.MIN, 0}};
    for (int[] v : bytes) c.due("a byte of " + v[0], x.set(0, 0, v[0]), v[1]);
    int[][] shorts = {{-32768, -32768}, {-32769, 32767}, {32767, 32767}, {32768, -32768}, {65535, -1}, {65536, 0}, {65541, 5},
        {Check.MAX, -1}, {Check.MIN, 0}};
    for (int[] v : shorts) c.due("a short of " + v[0], x.set(1, 0, v[0]), v[1]);
    for (int v : new int[] {Check.MIN, -1, 0, 65536, Check.MAX}) c.due("an int of " + v, x.set(2, 0, v), v);
    x.set(0, 0, 261);
    x.set(1, 0, 65541);
    x.set(2, 0, 261);
    c.same("what a byte is then", Check.items(x, 0), "5");
    c.same("what a short is then", Check.items(x, 1), "5");
    c.same("what an int is then", Check.items(x, 2), ".");
  }

  @Holds({"BAD: ROW; NULL; PLACE.", "2 PLACE (no such place of a ROW)"})
  static void setPlaces() {
    StepRiders x = new StepRiders();
    Check.row(x, 5, 1, 2, 3);
    c.all(x, "set", Check.BAD, new int[][] {{-1, 0, 9}, {8, 0, 9}, {Check.MIN, 0, 9}, {Check.MAX, 0, 9}});
    c.all(x, "set", Check.NULL, new int[][] {{0, 0, 9}, {7, 0, 9}, {4, -1, 9}, {4, 40, 9}});
    c.all(x, "set", Check.PLACE, new int[][] {{5, -1, 9}, {5, 3, 9}, {5, 39, 9}, {5, Check.MIN, 9}, {5, Check.MAX, 9}});
    c.due("set(5, 0, 9)", x.set(5, 0, 9), 9);
    c.due("set(5, 2, 8)", x.set(5, 2, 8), 8);
    c.same("the items", Check.items(x, 5), "9 2 8");
  }

  @Holds("`int copy(int a, int i, int b, int j, int n)`: n ITEMS of a from i on come to b from j on, as they were ahead: n.")
  static void copyAsTheyWere() {
    StepRiders x = new StepRiders();
    Check.row(x, 0, 1, 2, 3, 4, 5);
    c.due("one up", x.copy(0, 0, 0, 1, 4), 4);
    c.same("over itself", Check.items(x, 0), "1 1 2 3 4");
    Check.row(x, 0, 1, 2, 3, 4, 5);
    c.due("one down", x.copy(0, 1, 0, 0, 4), 4);
    c.same("over itself", Check.items(x, 0), "2 3 4 5 5");
    Check.row(x, 1, 9, 9, 9);
    c.due("to another", x.copy(0, 2, 1, 1, 2), 2);
    c.same("b", Check.items(x, 1), "9 4 5");
    c.same("a", Check.items(x, 0), "2 3 4 5 5");
    c.due("onto itself", x.copy(0, 0, 0, 0, 5), 5);
    c.same("a", Check.items(x, 0), "2 3 4 5 5");
    x.row(2, 0, 40);
    x.row(3, 0, 40);
    x.set(2, 0, 6);
    x.set(2, 39, 7);
    c.due("all of forty", x.copy(2, 0, 3, 0, 40), 40);
    c.same("b", Check.items(x, 3), "6 " + zeros(38) + " 7");
    x.set(2, 0, 8);
    c.same("b has its own items", Check.items(x, 3), "6 " + zeros(38) + " 7");
  }

  @Holds("PLACE (i, j, n below 0, or beyond an end)")
  static void copyPlaces() {
    StepRiders x = new StepRiders();
    Check.row(x, 0, 1, 2, 3, 4, 5);
    Check.row(x, 1, 6, 7, 8);
    int max = Check.MAX, min = Check.MIN;
    int[][] wrong = {{-1, 0, 1}, {0, -1, 1}, {0, 0, -1}, {min, 0, 1}, {0, min, 1}, {0, 0, min}, {-1, 0, 0}, {0, -1, 0},
        {5, 0, 1}, {3, 0, 3}, {0, 3, 1}, {0, 1, 3}, {6, 0, 0}, {0, 4, 0}, {1, 1, max}, {max, 0, 1}, {0, max, 1},
        {max, max, max}, {min, min, min}, {max, 0, max}, {0, 0, 4}, {-1, 0, 2}, {1, 0, -1}};
    for (int[] w : wrong)
      c.due("copy(0, " + w[0] + ", 1, " + w[1] + ", " + w[2] + ")", x.copy(0, w[0], 1, w[1], w[2]), Check.PLACE);
    c.due("none at the ends", x.copy(0, 5, 1, 3, 0), 0);
    c.due("none of none", x.row(2, 2, 0) + x.copy(2, 0, 2, 0, 0), 0);
    c.due("one of none", x.copy(2, 0, 0, 0, 1), Check.PLACE);
    c.due("one into none", x.copy(0, 0, 2, 0, 1), Check.PLACE);
    c.same("a", Check.items(x, 0), "1 2 3 4 5");
    c.same("b", Check.items(x, 1), "6 7 8");
    c.due("up to both ends", x.copy(0, 4, 1, 2, 1), 1);
    c.same("b", Check.items(x, 1), "6 7 5");
  }

  @Holds({"BAD: ROWS; NULL; STORE; PLACE", "5 STORE (ROWS of two WIDTHS)"})
  static void copyRefusals() {
    StepRiders x = new StepRiders();
    for (int w = 0; w < 3; w++) x.row(w, w, 3);
    for (int a : new int[] {-1, 8, Check.MIN, Check.MAX}) {
      c.due("a " + a, x.copy(a, 0, 0, 0, 0), Check.BAD);
      c.due("b " + a, x.copy(0, 0, a, 0, 0), Check.BAD);
      c.due("BAD is ahead of NULL", x.copy(a, 0, 5, 0, 0), Check.BAD);
      c.due("BAD is ahead of NULL", x.copy(5, 0, a, 0, 0), Check.BAD);
    }
    c.due("a is missing", x.copy(7, 0, 0, 0, 0), Check.NULL);
    c.due("b is missing", x.copy(0, 0, 7, 0, 0), Check.NULL);
    c.due("both are", x.copy(6, 0, 7, 0, 0), Check.NULL);
    c.due("NULL is ahead of PLACE", x.copy(0, -1, 7, 0, -1), Check.NULL);
    for (int a = 0; a < 3; a++)
      for (int b = 0; b < 3; b++) {
        c.due("copy " + a + " to " + b, x.copy(a, 0, b, 0, 3), a == b ? 3 : Check.STORE);
        c.due("none of " + a + " to " + b, x.copy(a, 3, b, 3, 0), a == b ? 0 : Check.STORE);
        c.due("STORE is ahead of PLACE", x.copy(a, 0, b, 0, 4), a == b ? Check.PLACE : Check.STORE);
      }
    x.row(3, 2, 1);
    x.drop(3);
    c.due("one that had another width and is missing", x.copy(0, 0, 3, 0, 1), Check.NULL);
  }

  @Holds("`int drop(int row)`: A ROW is missing from now on: how many ITEMS it had. BAD; NULL.")
  static void dropping() {
    StepRiders x = new StepRiders();
    x.row(0, 0, 40);
    Check.row(x, 6, 3, 4);
    x.row(7, 2, 0);
    c.all(x, "drop", Check.BAD, new int[][] {{-1}, {8}, {Check.MIN}, {Check.MAX}});
    c.due("drop(7)", x.drop(7), 0);
    c.due("drop(0)", x.drop(0), 40);
    c.due("drop(0) again", x.drop(0), Check.NULL);
    c.due("drop(7) again", x.drop(7), Check.NULL);
    c.due("set in it", x.set(0, 0, 1), Check.NULL);
    c.due("one is left", x.count(0), 1);
    c.same("as it was", Check.items(x, 6), "3 4");
    x.row(0, 1, 2);
    c.same("made again", Check.items(x, 0), "0 0");
  }

  @Holds({"`int status()`: Of the latest call with a ROW, or as(), that was not BAD, STATE, FULL: the number of its FINDING; 0: it had none, or there was none.",
      "then FINDINGS, of several the first in time: -1000010 less 1 NULL"})
  static void statusOfEachCallWithARow() {
    StepRiders x = Check.of("m4,1;s0;");
    c.due("there was none", x.status(), 0);
    c.due("set", x.set(0, 0, 0), -1000011);
    c.due("NULL", x.status(), 1);
    c.due("row", x.row(0, 0, 3), 3);
    c.due("it had none", x.status(), 0);
    c.due("set", x.set(0, 3, 0), -1000012);
    c.due("PLACE", x.status(), 2);
    c.due("set", x.set(0, 0, 0), 0);
    c.due("it had none", x.status(), 0);
    c.due("row", x.row(1, 0, -1), -1000014);
    c.due("SIZE", x.status(), 4);
    c.due("copy", x.copy(0, 0, 0, 1, 1), 1);
    c.due("it had none", x.status(), 0);
    x.row(1, 1, 1);
    c.due("copy", x.copy(0, 0, 1, 0, 1), -1000015);
    c.due("STORE", x.status(), 5);
    c.due("fits", x.fits(0, 0, 0, 1, 0), 62);
    c.due("it had none", x.status(), 0);
    c.due("fits", x.fits(0, 2, 0, 1, 0), -1000011);
    c.due("NULL", x.status(), 1);
    c.due("drop", x.drop(1), 1);
    c.due("it had none", x.status(), 0);
    c.due("drop", x.drop(1), -1000011);
    c.due("NULL", x.status(), 1);
    c.due("fits", x.fits(0, 0, 3, 1, 0), -1000012);
    c.due("PLACE", x.status(), 2);
  }

  public static void main(String[] args) {
    c.runAll(RowsEdgeTest.class);
  }
}
