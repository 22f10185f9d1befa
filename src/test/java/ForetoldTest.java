/** Promises 17 to 23. */
public final class ForetoldTest {
  private static final int NONE = -1000000, BAD = -1000001, STATE = -1000002;
  private static final Check c = new Check();

  private static void ahead() {
    c.due("ahead(0, 0) without a stair", new StepRiders().ahead(0, 0), BAD);
    StepRiders x = Check.of("m12,2;s0;r0;");
    int[] stander = {-1, 0, 2, 4, 6, 8, 10, 99};
    int[] runner = {-1, -1, 0, 3, 5, 7, 9, 11, 99};
    for (int d = 0; d < stander.length; d++) c.due("ahead(0, " + d + ")", x.ahead(0, d), stander[d]);
    for (int d = 0; d < runner.length; d++) c.due("ahead(1, " + d + ")", x.ahead(1, d), runner[d]);
    c.due("ahead(1, 60)", x.ahead(1, 60), 99);
    c.due("ahead(1, 61)", x.ahead(1, 61), BAD);
    c.due("ahead(1, -1)", x.ahead(1, -1), BAD);
    c.due("ahead(2, 0)", x.ahead(2, 0), BAD);
    c.due("nothing has changed", x.count(3) * 100 + x.count(8) * 10 + x.count(5), 2);
  }

  private static void later() {
    StepRiders none = new StepRiders();
    c.due("later(0, 0) without a stair", none.later(0, 0), STATE);
    c.due("STATE is ahead of BAD", none.later(61, 2), STATE);
    StepRiders x = Check.of("m12,2;s0;r0;");
    c.due("later(0, 1)", x.later(0, 1), 0);
    c.due("later(3, 1)", x.later(3, 1), 1 << 4 | 1 << 3);
    c.due("later(7, 0)", x.later(7, 0), 1);
    c.due("later(7, 1)", x.later(7, 1), 1 << 11);
    c.due("later(60, 0)", x.later(60, 0), 2);
    c.due("later(60, 1)", x.later(60, 1), 0);
    c.due("later(61, 0)", x.later(61, 0), BAD);
    c.due("later(-1, 0)", x.later(-1, 0), BAD);
    c.due("later(0, 2)", x.later(0, 2), BAD);
    c.due("later(0, -1)", x.later(0, -1), BAD);
  }

  private static void off() {
    c.due("off(0) without a stair", new StepRiders().off(0), BAD);
    StepRiders x = Check.of("m4,1;s0;s0;");
    c.due("off(0)", x.off(0), 5);
    c.due("off(1)", x.off(1), 6);
    c.due("off(2)", x.off(2), BAD);
    c.due("off(-1)", x.off(-1), BAD);
    c.due("clear()", x.clear(), 6);
    x.ticks(4);
    c.due("off(0) behind four", x.off(0), 1);
    x.take(0);
    c.due("off(0): it is", x.off(0), 0);
    x.speed(0);
    c.due("off(0) at speed 0", x.off(0), 0);
    c.due("off(1) at speed 0", x.off(1), NONE);
    c.due("clear() at speed 0", x.clear(), NONE);
    x.take(1);
    c.due("clear(): all are", x.clear(), 0);
    c.due("clear() without a stair", new StepRiders().clear(), STATE);
    c.due("off of a child", Check.of("m8,1;c0;").off(0), 15);
    c.due("clear of a child", Check.of("m8,1;c0;").clear(), 15);
  }

  private static void sorting() {
    StepRiders none = new StepRiders();
    c.due("sorting(0) without a stair", none.sorting(0), STATE);
    c.due("STATE is ahead of BAD", none.sorting(2), STATE);
    StepRiders x = Check.of("m12,1;s0;w0;");
    c.due("clear()", x.clear(), 14);
    c.due("sorting(0)", x.sorting(0), 13);
    c.due("sorting(1): the least bits of two", x.sorting(1), 1);
    c.due("sorting(2)", x.sorting(2), BAD);
    c.due("sorting(-1)", x.sorting(-1), BAD);
    x.ticks(1);
    c.due("the first is on: only the other can be put", x.sorting(1), 2);
    c.due("behind how many then", x.sorting(0), 12);
    x.ticks(1);
    c.due("nobody is in the queue", x.sorting(1), 0);
    c.due("as it is", x.sorting(0), 12);
    x.speed(0);
    c.due("never", x.sorting(0), NONE);
    c.due("none", x.sorting(1), NONE);
    x.take(0);
    x.take(1);
    c.due("all are off", x.sorting(0), 0);
    c.due("all are off", x.sorting(1), 0);
    StepRiders y = Check.of("m6,1;t1;c1;s1;");
    c.due("lanes that are all one", y.sorting(1), 0);
    c.due("behind how many", y.sorting(0), y.clear());
  }

  private static void taken() {
    StepRiders none = new StepRiders();
    c.due("taken(0) without a stair", none.taken(0), STATE);
    c.due("STATE is ahead of BAD", none.taken(-1), STATE);
    StepRiders x = Check.of("m12,1;s0;w0;");
    c.due("taken(0)", x.taken(0), 0);
    c.due("taken(1)", x.taken(1), 7);
    c.due("taken(2)", x.taken(2), BAD);
    c.due("taken(-1)", x.taken(-1), BAD);
    StepRiders y = Check.of("m6,1;s0;s1;s0;");
    c.due("of several the first", y.taken(0), 0);
    c.due("one tick sooner", y.taken(1), y.clear() - 1);
    StepRiders z = Check.of("m4,0;s0;");
    c.due("at all, if not within 60", z.taken(0), 0);
    c.due("the others, none, are off now", z.taken(1), 0);
    z.take(0);
    c.due("all are off: none is sooner", z.taken(0), NONE);
    c.due("all are off: none is sooner", z.taken(1), NONE);
    StepRiders two = Check.of("m4,0;s0;s1;");
    c.due("none helps", two.taken(0), NONE);
    c.due("none helps", two.taken(1), NONE);
    StepRiders late = Check.of("m8,1;s0;c0;");
    c.due("the second", late.taken(0), 1);
    c.due("the stander alone", late.taken(1), 9);
    StepRiders side = Check.of("m4,1;s0;s1;");
    side.speed(0);
    side.ticks(2);
    side.speed(1);
    c.places("side by side", side, "0 0");
    c.due("no one alone makes it sooner", side.taken(0), NONE);
  }

  private static void pace() {
    c.due("pace(0, 1, 0) without a stair", new StepRiders().pace(0, 1, 0), BAD);
    StepRiders x = Check.of("m4,1;s0;");
    c.due("pace(0, 0, -1)", x.pace(0, 0, -1), BAD);
    c.due("pace(0, 7, -1)", x.pace(0, 7, -1), BAD);
    c.due("pace(0, 1, -2)", x.pace(0, 1, -2), BAD);
    c.due("pace(1, 1, -1)", x.pace(1, 1, -1), BAD);
    c.due("pace(0, 2, -1)", x.pace(0, 2, -1), NONE);
    c.due("pace(0, 2, 0)", x.pace(0, 2, 0), NONE);
    c.due("pace(0, 3, -1)", x.pace(0, 3, -1), 4);
    row(x, 3, 0, 2, 2);
    c.due("pace(0, 6, -1)", x.pace(0, 6, -1), 4);
    row(x, 6, 0, 0, 0, 0, 2, 2);
    c.due("pace(0, 6, MAX)", x.pace(0, 6, Integer.MAX_VALUE), NONE);
    row(x, 4, 0, 0, 2, 2);
    StepRiders w = Check.of("m4,2;w0;");
    c.due("one who walks needs a last push", w.pace(0, 6, -1), 1);
    row(w, 6, 0, 0, 0, 0, 0, 1);
    x.take(0);
    c.due("one who is off", x.pace(0, 5, -1), 0);
    row(x, 5, 0, 0, 0, 0, 0);
    c.due("SPEED stays", x.count(4), 1);
  }

  private static void row(StepRiders x, int n, int... want) {
    for (int k = 0; k < n; k++) c.due("pace(0, " + n + ", " + k + ")", x.pace(0, n, k), want[k]);
    c.due("pace(0, " + n + ", " + n + ")", x.pace(0, n, n), NONE);
  }

  public static void main(String[] args) {
    ahead();
    later();
    off();
    sorting();
    taken();
    pace();
    c.end("ForetoldTest");
  }
}
