import java.math.BigInteger;
import java.util.ArrayDeque;
import java.util.ArrayList;
import java.util.Arrays;
import java.util.Comparator;
import java.util.Deque;
import java.util.List;

/**
 * The document a second time, written apart from the program and by other means (riders as objects,
 * everything tried out whole, no shortcuts), to hold random runs of calls against.
 */
final class Model {
  static final int NONE = -1000000, BAD = -1000001, STATE = -1000002, FULL = -1000003;

  /** One who rides; its kind says how it goes and what it answers. */
  static final class Rider implements Cloneable {
    char sort;
    int number, lane, where;

    Rider(char sort, int number, int lane) {
      this.sort = sort;
      this.number = number;
      this.lane = lane;
      this.where = -1;
    }

    Rider twin() {
      Rider r = new Rider(sort, number, lane);
      r.where = where;
      return r;
    }

    boolean rides() { return where != -1 && where != 99; }

    boolean takes(int place) { return sort == 't' || sort == 'c' || lane == place; }
  }

  static final class State {
    int steps, speed, tick;
    List<Rider> riders = new ArrayList<>();

    State twin() {
      State s = new State();
      s.steps = steps;
      s.speed = speed;
      s.tick = tick;
      for (Rider r : riders) s.riders.add(r.twin());
      return s;
    }

    boolean free(Rider who, int step) {
      for (int place = 0; place < 2; place++)
        for (Rider r : riders)
          if (r != who && r.where == step && r.takes(place) && who.takes(place)) return false;
      return true;
    }

    boolean up(Rider r) {
      if (r.where + 1 == steps || !free(r, r.where + 1)) return false;
      r.where++;
      return true;
    }

    int tick() {
      List<Rider> order = new ArrayList<>();
      for (Rider r : riders) if (r.rides()) order.add(r);
      order.sort(Comparator.<Rider>comparingInt(r -> -r.where).thenComparingInt(r -> r.lane).thenComparingInt(r -> r.number));
      for (Rider r : order) {
        if (r.sort == 'w') up(r);
        if (r.sort == 'r' && up(r)) up(r);
        if (r.sort == 'c' && tick % 2 == 1 && r.where > 0 && free(r, r.where - 1)) r.where--;
      }
      int gone = 0;
      for (Rider r : riders) {
        if (!r.rides()) continue;
        r.where += speed;
        if (r.where > steps - 1) { r.where = 99; gone++; }
      }
      for (Rider r : riders) if (r.where == -1 && free(r, 0)) { r.where = 0; break; }
      tick++;
      return gone;
    }

    int offs() {
      int n = 0;
      for (Rider r : riders) if (r.where == 99) n++;
      return n;
    }

    State behind(int d) {
      State s = twin();
      for (int i = 0; i < d; i++) s.tick();
      return s;
    }

    int clear() {
      State s = twin();
      for (int d = 0; d <= 60; d++) {
        if (s.offs() == s.riders.size()) return d;
        s.tick();
      }
      return NONE;
    }
  }

  private final int[][] rows = new int[8][];
  private final int[] widths = new int[8];
  private final StringBuilder tape = new StringBuilder();
  private int fault, status;
  private State now;
  private final Deque<State> acts = new ArrayDeque<>();
  private final State[] images = new State[2];
  private List<Integer> trace = new ArrayList<>();

  private int find(int k) { status = k; return -1000010 - k; }
  private int well(int v) { status = 0; return v; }
  private Rider who(int r) { return now == null || r < 0 || r >= now.riders.size() ? null : now.riders.get(r); }
  private void act() { acts.addLast(now.twin()); if (acts.size() > 24) acts.removeFirst(); }

  int row(int row, int width, int n) {
    if (row < 0 || row > 7 || width < 0 || width > 2 || n > 40) return BAD;
    if (n < 0) return find(4);
    rows[row] = new int[n];
    widths[row] = width;
    return well(n);
  }

  int set(int row, int i, int v) {
    if (row < 0 || row > 7) return BAD;
    if (rows[row] == null) return find(1);
    if (i < 0 || i >= rows[row].length) return find(2);
    int bits = 8 << widths[row];
    rows[row][i] = v << (32 - bits) >> (32 - bits);
    return well(rows[row][i]);
  }

  int copy(int a, int i, int b, int j, int n) {
    if (a < 0 || a > 7 || b < 0 || b > 7) return BAD;
    if (rows[a] == null || rows[b] == null) return find(1);
    if (widths[a] != widths[b]) return find(5);
    if (i < 0 || j < 0 || n < 0 || (long) i + n > rows[a].length || (long) j + n > rows[b].length) return find(2);
    int[] were = rows[a].clone();
    for (int k = 0; k < n; k++) rows[b][j + k] = were[i + k];
    return well(n);
  }

  int drop(int row) {
    if (row < 0 || row > 7) return BAD;
    if (rows[row] == null) return find(1);
    int n = rows[row].length;
    rows[row] = null;
    return well(n);
  }

  int feed(int letter) {
    if (letter < 0 || letter > 255) return BAD;
    if (tape.length() == 90) return FULL;
    tape.append((char) letter);
    return tape.length();
  }

  private int no(int number, int place) { fault = number; return -1000100 - place; }

  int stair() {
    String text = tape.toString();
    tape.setLength(0);
    List<String> tokens = new ArrayList<>();
    List<Integer> places = new ArrayList<>();
    for (int p = 0; p < text.length(); ) {
      int q = p;
      while (q < text.length() && "0123456789".indexOf(text.charAt(q)) >= 0) q++;
      if (q == p) q++;
      tokens.add(text.substring(p, q));
      places.add(p);
      p = q;
    }
    State s = new State();
    char sort = 0;
    for (int t = 0; t < tokens.size(); t++) {
      String token = tokens.get(t);
      int place = places.get(t);
      boolean number = token.matches("[0-9]{1,2}");
      int v = number ? Integer.parseInt(token) : -1;
      if (t == 0) { if (!token.equals("m")) return no(1, place); }
      else if (t == 1) { if (!number) return no(1, place); if (v < 4 || v > 12) return no(2, place); s.steps = v; }
      else if (t == 2) { if (!token.equals(",")) return no(1, place); }
      else if (t == 3) { if (!number) return no(1, place); if (v > 2) return no(2, place); s.speed = v; }
      else if (t == 4 || t % 3 == 1) { if (!token.equals(";")) return no(1, place); }
      else if (t % 3 == 2) {
        if (!token.matches("[swrtc]")) return no(1, place);
        if (s.riders.size() == 7) return no(3, place);
        sort = token.charAt(0);
      } else {
        if (!number) return no(1, place);
        if (v > 1) return no(2, place);
        s.riders.add(new Rider(sort, s.riders.size(), v));
      }
    }
    if (tokens.size() < 8 || tokens.size() % 3 != 2) return no(1, text.length());
    now = s;
    acts.clear();
    return s.riders.size();
  }

  int fault() { return fault; }

  int ticks(int n) {
    if (now == null) return STATE;
    if (n < 1 || n > 24) return BAD;
    if (now.tick + n > 9999) return FULL;
    for (int i = 0; i < n; i++) { act(); now.tick(); }
    return now.offs();
  }

  int speed(int v) {
    if (now == null) return STATE;
    if (v < 0 || v > 2) return BAD;
    act();
    int was = now.speed;
    now.speed = v;
    return was;
  }

  int cross(int rider) {
    Rider r = who(rider);
    if (r == null) return BAD;
    if (r.where == 99) return STATE;
    if (r.rides()) {
      Rider there = r.twin();
      there.lane = 1 - r.lane;
      State without = now.twin();
      without.riders.remove(rider);
      if (!without.free(there, r.where)) return STATE;
    }
    act();
    return r.lane = 1 - r.lane;
  }

  int take(int rider) {
    Rider r = who(rider);
    if (r == null) return BAD;
    if (r.where == 99) return STATE;
    act();
    int was = r.where;
    r.where = 99;
    return was;
  }

  int again(int rider, int lane) {
    Rider r = who(rider);
    if (r == null || lane < 0 || lane > 1) return BAD;
    if (r.where != 99) return STATE;
    act();
    r.where = -1;
    r.lane = lane;
    return now.offs();
  }

  int undo() {
    if (acts.isEmpty()) return STATE;
    now = acts.removeLast();
    return acts.size();
  }

  int rider(int rider, int what) {
    Rider r = who(rider);
    if (r == null || what < 0 || what > 3) return BAD;
    return what == 0 ? r.where : what == 1 ? r.lane : what == 2 ? (r.takes(0) && r.takes(1) ? 1 : 0)
        : r.rides() && r.where < now.steps - 1 && now.free(r, r.where + 1) ? 1 : 0;
  }

  int step(int step, int lane) {
    if (now == null || step < 0 || step >= now.steps || lane < 0 || lane > 1) return BAD;
    int bits = 0;
    for (Rider r : now.riders) if (r.where == step && r.takes(lane)) bits += 1 << r.number;
    return bits;
  }

  int ahead(int rider, int d) {
    if (who(rider) == null || d < 0 || d > 60) return BAD;
    return now.behind(d).riders.get(rider).where;
  }

  int later(int d, int what) {
    if (now == null) return STATE;
    if (d < 0 || d > 60 || what < 0 || what > 1) return BAD;
    State s = now.behind(d);
    if (what == 0) return s.offs();
    int bits = 0;
    for (Rider r : s.riders) if (r.rides()) bits |= 1 << r.where;
    return bits;
  }

  int off(int rider) {
    if (who(rider) == null) return BAD;
    for (int d = 0; d <= 60; d++) if (now.behind(d).riders.get(rider).where == 99) return d;
    return NONE;
  }

  int clear() { return now == null ? STATE : now.clear(); }

  int sorting(int what) {
    if (now == null) return STATE;
    if (what < 0 || what > 1) return BAD;
    int best = NONE, which = NONE;
    for (int bits = 0; bits < 1 << now.riders.size(); bits++) {
      State s = now.twin();
      boolean others = false;
      for (Rider r : s.riders) {
        int bit = bits >> r.number & 1;
        if (r.where == -1) r.lane = bit; else others |= bit == 1;
      }
      if (others) continue;
      int c = s.clear();
      if (c != NONE && (best == NONE || c < best)) { best = c; which = bits; }
    }
    return what == 0 ? best : which;
  }

  int taken(int what) {
    if (now == null) return STATE;
    if (what < 0 || what > 1) return BAD;
    int is = now.clear(), best = NONE, which = NONE;
    for (int k = 0; k < now.riders.size(); k++) {
      State s = now.twin();
      s.riders.get(k).where = 99;
      int c = s.clear();
      if (c == NONE || is != NONE && c >= is) continue;
      if (best == NONE || c < best) { best = c; which = k; }
    }
    return what == 0 ? which : best;
  }

  private int[] paces(State s, int rider, int n) {
    if (n == 0) return s.riders.get(rider).where == 99 ? new int[0] : null;
    int[] best = null;
    for (int v = 0; v < 3; v++) {
      State t = s.twin();
      t.speed = v;
      t.tick();
      int[] rest = paces(t, rider, n - 1);
      if (rest == null) continue;
      int[] all = new int[n];
      all[0] = v;
      System.arraycopy(rest, 0, all, 1, n - 1);
      if (best == null || Arrays.stream(all).sum() < Arrays.stream(best).sum()) best = all;
    }
    return best;
  }

  int pace(int rider, int n, int k) {
    if (who(rider) == null || n < 1 || n > 6 || k < -1) return BAD;
    int[] best = paces(now, rider, n);
    if (best == null) return NONE;
    return k == -1 ? Arrays.stream(best).sum() : k < n ? best[k] : NONE;
  }

  private boolean seen(State s, int rider, int[] row, int i, int n) {
    for (int k = 1; k <= n; k++) if (s.behind(k).riders.get(rider).where != row[i + k - 1]) return false;
    return true;
  }

  int fits(int rider, int row, int i, int n, int what) {
    if (who(rider) == null || row < 0 || row > 7 || n < 1 || n > 12 || what < 0 || what > 3) return BAD;
    if (rows[row] == null) return find(1);
    if (i < 0 || (long) i + n > rows[row].length) return find(2);
    int bits = 0;
    if (what == 3 && !who(rider).rides()) return well(0);
    for (int v = 0; v < 16; v++) {
      State s = now.twin();
      Rider r = s.riders.get(rider);
      if (what == 0) { if (v < 1 || v > 5) continue; r.sort = "?swrtc".charAt(v); }
      if (what == 1) { if (v > 1) continue; r.lane = v; }
      if (what == 2) { if (v > 2) continue; s.speed = v; }
      if (what == 3) { if (v >= s.steps || !s.free(r, v)) continue; r.where = v; }
      if (seen(s, rider, rows[row], i, n)) bits |= 1 << v;
    }
    return well(bits);
  }

  private BigInteger chance(State s, int from, int rider, int n, int c) {
    for (int k = from; k < s.riders.size(); k++) {
      if (s.riders.get(k).where != -1) continue;
      State gone = s.twin();
      gone.riders.get(k).where = 99;
      State comes = s.twin();
      // one who is looked at already is told from those still to be by 'from'
      return chance(gone, k + 1, rider, n, c).multiply(BigInteger.valueOf(c))
          .add(chance(comes, k + 1, rider, n, c).multiply(BigInteger.valueOf(10 - c)));
    }
    return s.behind(n).riders.get(rider).where == 99 ? BigInteger.ONE : BigInteger.ZERO;
  }

  int absent(int rider, int n, int c, int what) {
    if (who(rider) == null || n < 0 || n > 60 || c < 0 || c > 10 || what < 0 || what > 1) return BAD;
    int queue = 0;
    for (Rider r : now.riders) if (r.where == -1) queue++;
    BigInteger above = chance(now, 0, rider, n, c), below = BigInteger.TEN.pow(queue), g = above.gcd(below);
    return (what == 0 ? above : below).divide(g).intValueExact();
  }

  int drawn(int n, int seed, int what) {
    if (now == null) return STATE;
    if (n < 0 || n > 60 || seed < 1 || seed > 999999 || what < 0 || what > 1) return BAD;
    State s = now.twin();
    BigInteger x = BigInteger.valueOf(seed);
    int often = 0;
    for (int i = 0; i < n; i++) {
      x = x.multiply(BigInteger.valueOf(16807)).mod(BigInteger.valueOf(Integer.MAX_VALUE));
      int v = x.intValueExact();
      if (v % 4 == 0) s.speed = v % 3;
      Rider r = s.riders.get(v % s.riders.size());
      if (r.where == 99) { r.where = -1; r.lane = v % 2; }
      often += s.tick();
    }
    return what == 0 ? often : s.offs();
  }

  int image(int k) {
    if (k < 0 || k > 1) return BAD;
    if (now == null) return STATE;
    images[k] = now.twin();
    return 1;
  }

  int restore(int k) {
    if (k < 0 || k > 1) return BAD;
    if (images[k] == null) return STATE;
    now = images[k].twin();
    acts.clear();
    return 1;
  }

  int kind(int rider) { return who(rider) == null ? BAD : "?swrtc".indexOf(who(rider).sort); }

  int as(int rider, int kind) {
    if (who(rider) == null || kind < 0 || kind > 5) return BAD;
    String[] kinds = {"swrtc", "swr", "w", "r", "tc", "c"};
    return kinds[kind].indexOf(who(rider).sort) >= 0 ? well(rider) : find(3);
  }

  private int size(Rider r, String kinds) {
    if (kinds.equals("w")) { trace.add(12); return 0 - size(r, "s"); }
    if (kinds.equals("s") || kinds.equals("r")) { trace.add(11); int ten = size(r, ""); return ten + mark(r, "" + r.sort); }
    if (kinds.equals("t")) { trace.add(13); return size(r, "") - 100; }
    if (kinds.equals("c")) { trace.add(14); return size(r, "t") * 2; }
    trace.add(10);
    return r.where;
  }

  private int mark(Rider r, String kinds) {
    if (kinds.equals("w")) { trace.add(24); return mark(r, "s") * 2; }
    if (kinds.equals("r")) { trace.add(22); return mark(r, "s") - 1000; }
    if (kinds.equals("s")) { trace.add(21); return mark(r, "") + r.lane; }
    if (kinds.equals("t") || kinds.equals("c")) { trace.add(23); int twenty = mark(r, ""); return twenty - size(r, "" + r.sort); }
    trace.add(20);
    return r.number;
  }

  int ask(int rider, int what) {
    if (who(rider) == null || what < 0 || what > 1) return BAD;
    trace = new ArrayList<>();
    return what == 0 ? size(who(rider), "" + who(rider).sort) : mark(who(rider), "" + who(rider).sort);
  }

  int trace(int i) { return i < 0 || i >= Math.min(16, trace.size()) ? NONE : trace.get(i); }

  int count(int what) {
    int queue = 0, on = 0;
    if (now != null) for (Rider r : now.riders) { if (r.where == -1) queue++; if (r.rides()) on++; }
    switch (what) {
      case 0: { int n = 0; for (int[] r : rows) if (r != null) n++; return n; }
      case 1: return now == null ? 0 : now.riders.size();
      case 2: return now == null ? 0 : now.steps;
      case 3: return now == null ? 0 : now.tick;
      case 4: return now == null ? 0 : now.speed;
      case 5: return queue;
      case 6: return on;
      case 7: return now == null ? 0 : now.offs();
      case 8: return acts.size();
      case 9: return tape.length();
      default: return BAD;
    }
  }

  int status() { return status; }
}
