/** Promises 29 to 32 and, for as(), 34. */
public final class AskedTest {
  private static final int NONE = -1000000, BAD = -1000001, KIND = -1000013;
  private static final Check c = new Check();

  private static void ask(StepRiders x, int rider, int what, int want, int... bodies) {
    c.due("ask(" + rider + ", " + what + ")", x.ask(rider, what), want);
    for (int i = 0; i < bodies.length; i++) c.due("its trace(" + i + ")", x.trace(i), bodies[i]);
    for (int i = bodies.length; i < 18; i++) c.due("its trace(" + i + ")", x.trace(i), NONE);
  }

  private static void asks() {
    c.due("ask(0, 0) without a stair", new StepRiders().ask(0, 0), BAD);
    StepRiders x = Check.of("m12,1;s0;s1;w1;r1;t1;c1;");
    c.due("trace(0) of none", x.trace(0), NONE);
    x.ticks(5);
    c.places("behind five", x, "4 3 2 1 0 -1");
    ask(x, 0, 0, 4, 11, 10, 21, 20);
    ask(x, 0, 1, 0, 21, 20);
    ask(x, 1, 0, 3 + 2, 11, 10, 21, 20);
    ask(x, 1, 1, 2, 21, 20);
    ask(x, 2, 0, -(2 + 6), 12, 11, 10, 24, 21, 20);
    ask(x, 2, 1, 6, 24, 21, 20);
    ask(x, 3, 0, 1 + 4 - 1000, 11, 10, 22, 21, 20);
    ask(x, 3, 1, 4 - 1000, 22, 21, 20);
    ask(x, 4, 0, -100, 13, 10);
    ask(x, 4, 1, 4 + 100, 23, 20, 13, 10);
    ask(x, 5, 0, -202, 14, 13, 10);
    ask(x, 5, 1, 5 + 202, 23, 20, 14, 13, 10);
    x.take(2);
    x.take(5);
    ask(x, 5, 0, -2, 14, 13, 10);
    ask(x, 2, 0, -105, 12, 11, 10, 24, 21, 20);
    c.due("ask(6, 0)", x.ask(6, 0), BAD);
    c.due("ask(-1, 0)", x.ask(-1, 0), BAD);
    c.due("ask(0, 2)", x.ask(0, 2), BAD);
    c.due("ask(0, -1)", x.ask(0, -1), BAD);
    c.due("what is refused leaves the trace", x.trace(0), 12);
    c.due("trace(-1)", x.trace(-1), NONE);
    c.due("trace(MAX)", x.trace(Integer.MAX_VALUE), NONE);
    c.due("trace(MIN)", x.trace(Integer.MIN_VALUE), NONE);
    Check.read(x, "m4,0;s0;");
    c.due("another stair leaves the trace", x.trace(5), 20);
  }

  private static void kinds() {
    StepRiders none = new StepRiders();
    c.due("kind(0) without a stair", none.kind(0), BAD);
    c.due("as(0, 0) without a stair", none.as(0, 0), BAD);
    StepRiders x = Check.of("m12,1;s0;w1;r1;t0;c1;");
    int[] are = {1 | 2, 1 | 2 | 4, 1 | 2 | 8, 1 | 16, 1 | 16 | 32};
    for (int r = 0; r < 5; r++) {
      c.due("kind(" + r + ")", x.kind(r), r + 1);
      for (int k = 0; k < 6; k++) {
        boolean is = (are[r] >> k & 1) == 1;
        c.due("as(" + r + ", " + k + ")", x.as(r, k), is ? r : KIND);
        c.due("status()", x.status(), is ? 0 : 3);
      }
    }
    c.due("kind(5)", x.kind(5), BAD);
    c.due("kind(-1)", x.kind(-1), BAD);
    c.due("as(0, 2)", x.as(0, 2), KIND);
    c.due("as(5, 0)", x.as(5, 0), BAD);
    c.due("as(-1, 0)", x.as(-1, 0), BAD);
    c.due("as(0, 6)", x.as(0, 6), BAD);
    c.due("as(0, -1)", x.as(0, -1), BAD);
    c.due("status() is left by BAD", x.status(), 3);
    x.ticks(1);
    x.ask(0, 0);
    x.kind(0);
    x.feed('m');
    c.due("status() is left by calls without rows", x.status(), 3);
    x.row(0, 0, 1);
    c.due("status() of a row", x.status(), 0);
  }

  public static void main(String[] args) {
    asks();
    kinds();
    c.end("AskedTest");
  }
}
