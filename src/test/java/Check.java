/** What every test of the project shares: it tells each answer that is not as due, and fails at the end. */
final class Check {
  private int wrong = 0;
  private int asked = 0;

  void due(String call, long got, long want) {
    asked++;
    if (got != want) {
      wrong++;
      if (wrong <= 40) System.out.println(call + " answered " + got + ", due is " + want);
    }
  }

  void so(String what, boolean holds) {
    due(what, holds ? 1 : 0, 1);
  }

  void end(String name) {
    System.out.println(name + ": " + (asked - wrong) + " answers as due, " + wrong + " not");
    if (wrong != 0 || asked == 0) System.exit(1);
  }

  /** The tape is fed a text; the answers of feed are looked at elsewhere. */
  static void feed(StepRiders x, String text) {
    for (int i = 0; i < text.length(); i++) x.feed(text.charAt(i));
  }

  static int read(StepRiders x, String text) {
    feed(x, text);
    return x.stair();
  }

  /** A new object with the stair of a text. */
  static StepRiders of(String text) {
    StepRiders x = new StepRiders();
    int riders = read(x, text);
    if (riders < 1) throw new IllegalStateException(text + " is no stair");
    return x;
  }

  /** Row r is made of ints with these items. */
  static void row(StepRiders x, int r, int... items) {
    x.row(r, 2, items.length);
    for (int i = 0; i < items.length; i++) x.set(r, i, items[i]);
  }

  /** Where all riders are, one behind the other. */
  static String places(StepRiders x) {
    StringBuilder all = new StringBuilder();
    for (int r = 0; r < x.count(1); r++) all.append(r == 0 ? "" : " ").append(x.rider(r, 0));
    return all.toString();
  }

  void places(String call, StepRiders x, String want) {
    String got = places(x);
    asked++;
    if (!got.equals(want)) {
      wrong++;
      System.out.println(call + ": the riders are at " + got + ", due is " + want);
    }
  }
}
