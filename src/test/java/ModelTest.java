import java.util.ArrayList;
import java.util.List;
import java.util.Random;

/** Promises 1 to 34: random runs of up to 512 calls, each answer held against that of the model. */
public final class ModelTest {
  private static final int[] WILD = {-1, -2, Integer.MIN_VALUE, Integer.MAX_VALUE, 100, 41, -1000000, 1 << 30};
  private final Check check = new Check();
  private final Random random;
  private final StepRiders x = new StepRiders();
  private final Model m = new Model();
  private final List<String> log = new ArrayList<>();
  private int calls = 0;
  private final int wildness;

  private ModelTest(long seed, int wildness) {
    random = new Random(seed);
    this.wildness = wildness;
  }

  /** A number from least to most; now and then one just outside, or far off. */
  private int num(int least, int most) {
    int w = random.nextInt(100);
    if (w < wildness) return w % 2 == 0 ? WILD[random.nextInt(WILD.length)] : random.nextBoolean() ? least - 1 : most + 1;
    return least + random.nextInt(most - least + 1);
  }

  private int rider() { return num(0, Math.max(0, m.count(1) - 1)); }

  private void due(String call, int got, int want) {
    calls++;
    log.add(call + " -> " + want);
    check.due(call, got, want);
    if (got != want) {
      System.out.println("behind:");
      for (int i = Math.max(0, log.size() - 120); i < log.size(); i++) System.out.println("  " + log.get(i));
      throw new IllegalStateException("the run ends with its first wrong answer");
    }
  }

  private String text() {
    StringBuilder t = new StringBuilder("m");
    t.append(4 + random.nextInt(9)).append(',').append(random.nextInt(10) < 2 ? 0 : 1 + random.nextInt(2)).append(';');
    int n = 1 + random.nextInt(7);
    for (int i = 0; i < n; i++) t.append("swrtc".charAt(random.nextInt(5))).append(random.nextInt(2)).append(';');
    if (random.nextInt(6) == 0) {
      String odd = "mswrtcax,;0123456789 -{\u00e9";
      int changes = 1 + random.nextInt(3);
      for (int i = 0; i < changes; i++) {
        int p = random.nextInt(t.length());
        char c = odd.charAt(random.nextInt(odd.length()));
        switch (random.nextInt(4)) {
          case 0: t.setCharAt(p, c); break;
          case 1: t.insert(p, c); break;
          case 2: if (t.length() > 1) t.deleteCharAt(p); break;
          default: t.setLength(Math.max(1, p));
        }
      }
    } else if (random.nextInt(12) == 0) t.append("s0;t1;c0;w1;r0;s1;s0;s1;");
    return t.toString();
  }

  private void read() {
    String t = text();
    for (int i = 0; i < t.length(); i++) due("feed(" + (int) t.charAt(i) + ")", x.feed(t.charAt(i)), m.feed(t.charAt(i)));
    due("stair()", x.stair(), m.stair());
    due("fault()", x.fault(), m.fault());
  }

  private void lookAround() {
    for (int k = 0; k < 10; k++) due("count(" + k + ")", x.count(k), m.count(k));
    for (int r = 0; r < m.count(1); r++)
      for (int k = 0; k < 4; k++) due("rider(" + r + ", " + k + ")", x.rider(r, k), m.rider(r, k));
  }

  /** A row that now and then tells the truth, so that something fits. */
  private void sight(int r) {
    int row = random.nextInt(8), n = 1 + random.nextInt(12);
    boolean ahead = m.count(1) > 0 && r >= 0 && r < m.count(1);
    int width = random.nextInt(3);
    due("row(" + row + ", " + width + ", " + n + ")", x.row(row, width, n), m.row(row, width, n));
    for (int i = 0; i < n; i++) {
      int v = ahead ? m.ahead(r, i + 1) : random.nextInt(12);
      if (random.nextInt(60) == 0) v = random.nextInt(6) - 1;
      due("set(" + row + ", " + i + ", " + v + ")", x.set(row, i, v), m.set(row, i, v));
    }
    for (int what = 0; what < 4; what++) {
      int from = random.nextInt(4) == 0 ? num(0, n) : 0;
      int many = from == 0 ? 1 + random.nextInt(n) : num(1, 12);
      due("fits(" + r + ", " + row + ", " + from + ", " + many + ", " + what + ")",
          x.fits(r, row, from, many, what), m.fits(r, row, from, many, what));
    }
  }

  private void rowCall() {
    int a = num(0, 7), b = num(0, 7), i = num(0, 10), j = num(0, 10), n = num(0, 8), v = random.nextInt();
    switch (random.nextInt(5)) {
      case 0: { int w = num(0, 2), k = num(0, 40); due("row(" + a + ", " + w + ", " + k + ")", x.row(a, w, k), m.row(a, w, k)); break; }
      case 1: due("drop(" + a + ")", x.drop(a), m.drop(a)); break;
      case 2: due("copy(" + a + ", " + i + ", " + b + ", " + j + ", " + n + ")", x.copy(a, i, b, j, n), m.copy(a, i, b, j, n)); break;
      default: due("set(" + a + ", " + i + ", " + v + ")", x.set(a, i, v), m.set(a, i, v));
    }
  }

  private void act() {
    int r = rider(), k;
    switch (random.nextInt(9)) {
      case 0: k = num(0, 2); due("speed(" + k + ")", x.speed(k), m.speed(k)); break;
      case 1: due("cross(" + r + ")", x.cross(r), m.cross(r)); break;
      case 2: due("take(" + r + ")", x.take(r), m.take(r)); break;
      case 3: case 4: k = num(0, 1); due("again(" + r + ", " + k + ")", x.again(r, k), m.again(r, k)); break;
      case 5: due("undo()", x.undo(), m.undo()); break;
      default: k = random.nextInt(4) == 0 ? num(1, 24) : num(1, 3); due("ticks(" + k + ")", x.ticks(k), m.ticks(k));
    }
  }

  private void foretell() {
    int r = rider(), d = num(0, 60), w = num(0, 1), k;
    switch (random.nextInt(12)) {
      case 0: due("ahead(" + r + ", " + d + ")", x.ahead(r, d), m.ahead(r, d)); break;
      case 1: due("later(" + d + ", " + w + ")", x.later(d, w), m.later(d, w)); break;
      case 2: due("off(" + r + ")", x.off(r), m.off(r)); break;
      case 3: due("clear()", x.clear(), m.clear()); break;
      case 4: due("sorting(" + w + ")", x.sorting(w), m.sorting(w)); break;
      case 5: due("taken(" + w + ")", x.taken(w), m.taken(w)); break;
      case 6: { int n = num(1, 6); k = num(-1, 6); due("pace(" + r + ", " + n + ", " + k + ")", x.pace(r, n, k), m.pace(r, n, k)); break; }
      case 7: { int c = num(0, 10); int n = random.nextBoolean() ? num(0, 14) : d;
        due("absent(" + r + ", " + n + ", " + c + ", " + w + ")", x.absent(r, n, c, w), m.absent(r, n, c, w)); break; }
      case 8: { int s = num(1, 999999); due("drawn(" + d + ", " + s + ", " + w + ")", x.drawn(d, s, w), m.drawn(d, s, w)); break; }
      case 9: due("image(" + w + ")", x.image(w), m.image(w)); break;
      case 10: if (random.nextInt(4) == 0) due("restore(" + w + ")", x.restore(w), m.restore(w)); break;
      default: sight(r);
    }
  }

  private void asks() {
    int r = rider(), w = num(0, 1), k = num(0, 5), s = num(0, 11), l = num(0, 1);
    due("kind(" + r + ")", x.kind(r), m.kind(r));
    due("as(" + r + ", " + k + ")", x.as(r, k), m.as(r, k));
    due("status()", x.status(), m.status());
    due("ask(" + r + ", " + w + ")", x.ask(r, w), m.ask(r, w));
    for (int i = -1; i < 8; i++) due("trace(" + i + ")", x.trace(i), m.trace(i));
    due("step(" + s + ", " + l + ")", x.step(s, l), m.step(s, l));
    due("count(" + s + ")", x.count(s), m.count(s));
  }

  private void run() {
    lookAround();
    int reads = 0;
    while (calls < 512) {
      int c = random.nextInt(100);
      if (c < 6 || reads == 0 && c < 60) { read(); reads++; }
      else if (c < 40) act();
      else if (c < 55) foretell();
      else if (c < 70) rowCall();
      else if (c < 80) asks();
      else if (c < 88) lookAround();
      else if (c < 90) { int v = num(0, 255); due("feed(" + v + ")", x.feed(v), m.feed(v)); }
      else due("status()", x.status(), m.status());
    }
  }

  public static void main(String[] args) {
    int runs = args.length > 0 ? Integer.parseInt(args[0]) : 400;
    long from = args.length > 1 ? Long.parseLong(args[1]) : 1;
    Check all = new Check();
    long answers = 0;
    for (long seed = from; seed < from + runs; seed++) {
      ModelTest t = new ModelTest(seed, (int) (seed % 4) * 5);
      boolean well = false;
      try {
        t.run();
        well = true;
      } catch (IllegalStateException e) {
        System.out.println("run " + seed + ": " + e.getMessage());
      }
      answers += t.calls;
      all.so("run " + seed, well);
      if (!well) break;
    }
    System.out.println(answers + " answers looked at");
    all.end("ModelTest");
  }
}
