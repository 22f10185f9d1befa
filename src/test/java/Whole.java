import java.util.function.Supplier;

/**
 * All that calls can tell of an object, but status(), as one text: what two histories leave is the same if
 * they are told alike. Each part is told of an object of its own, as telling it may change the rest; every
 * object stays within its 512 calls.
 */
final class Whole {
  private Whole() {}

  static String of(Supplier<StepRiders> history) {
    return "looks " + looks(history.get()) + "\nacts " + acts(history.get()) + "\nimages " + images(history.get())
        + "\ntape " + tape(history.get()) + "\nrows " + rows(history.get()) + "\nwidths " + widths(history.get());
  }

  private static String looks(StepRiders x) {
    StringBuilder all = new StringBuilder();
    for (int k = 0; k < 10; k++) all.append(x.count(k)).append(' ');
    all.append("fault ").append(x.fault()).append(" trace");
    for (int i = 0; i < 17; i++) all.append(' ').append(x.trace(i));
    for (int r = 0; r < 7; r++) {
      all.append(" rider ").append(x.kind(r));
      for (int k = 0; k < 4; k++) all.append(' ').append(x.rider(r, k));
    }
    for (int s = 0; s < 12; s++) all.append(" step ").append(x.step(s, 0)).append(' ').append(x.step(s, 1));
    return all.toString();
  }

  private static String acts(StepRiders x) {
    StringBuilder all = new StringBuilder();
    int riders = x.count(1);
    for (int i = 0; i < 25; i++) {
      all.append(x.undo()).append(" TICK ").append(x.count(3)).append(" SPEED ").append(x.count(4)).append(" at");
      for (int r = 0; r < riders; r++) all.append(' ').append(x.rider(r, 0)).append('/').append(x.rider(r, 1));
      all.append("; ");
    }
    return all.toString();
  }

  private static String images(StepRiders x) {
    return x.restore(0) + " " + looks(x) + " and " + x.restore(1) + " " + looks(x);
  }

  private static String tape(StepRiders x) {
    return x.stair() + " " + x.fault() + " " + looks(x);
  }

  private static String rows(StepRiders x) {
    StringBuilder all = new StringBuilder();
    for (int r = 0; r < 8; r++) all.append(Check.items(x, r)).append("; ");
    return all.toString();
  }

  /** Rows of one width can be copied into each other. */
  private static String widths(StepRiders x) {
    StringBuilder all = new StringBuilder();
    for (int a = 0; a < 8; a++) for (int b = 0; b < 8; b++) all.append(x.copy(a, 0, b, 0, 0)).append(' ');
    for (int r = 0; r < 8; r++) all.append(x.set(r, 0, 65836)).append(' ');
    return all.toString();
  }
}
