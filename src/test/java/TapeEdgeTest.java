/** The edges of promises 6 to 8 and of chapter 1's texts. */
public final class TapeEdgeTest {
  private static final String SEVEN = "m9,1;s0;s1;w0;w1;r0;r1;t0;";
  private static final Check c = new Check();

  /** Where a text has its fault, and which. */
  private static void fault(String text, int place, int number) {
    StepRiders x = new StepRiders();
    c.due("'" + text + "' stair()", Check.read(x, text), -1000100 - place);
    c.due("'" + text + "' fault()", x.fault(), number);
    c.due("'" + text + "' is no stair", x.count(1) + x.count(2), 0);
  }

  private static void read(String text, int riders, int steps, int speed) {
    StepRiders x = new StepRiders();
    c.due("'" + text + "' stair()", Check.read(x, text), riders);
    c.due("'" + text + "' RIDERS", x.count(1), riders);
    c.due("'" + text + "' STEPS", x.count(2), steps);
    c.due("'" + text + "' SPEED", x.count(4), speed);
    c.due("'" + text + "' fault()", x.fault(), 0);
  }

  @Holds("`int feed(int letter)`: A byte (0 to 255) comes behind the tape: how many it has. BAD; FULL.")
  static void feedNumbers() {
    StepRiders x = new StepRiders();
    c.all(x, "feed", Check.BAD, new int[][] {{-1}, {256}, {Check.MIN}, {Check.MAX}});
    c.due("nothing came", x.count(9), 0);
    c.due("feed(0)", x.feed(0), 1);
    c.due("feed(255)", x.feed(255), 2);
    c.due("bytes", x.count(9), 2);
    x.stair();
    c.due("behind the others", x.feed('m') * 100 + x.feed('4') * 10 + x.feed(':'), 123);
    c.due("the third is wrong", x.stair(), -1000102);
  }

  @Holds({"TEXTS: THE TAPE has at most 90 bytes, that come one by one", "FULL (as told)"})
  static void feedNinety() {
    StepRiders x = new StepRiders();
    String text = "m9,1;";
    for (int i = 1; i <= 90; i++) c.due("byte " + i, x.feed(i <= 5 ? text.charAt(i - 1) : "s0;".charAt(i % 3)), i);
    c.due("byte 91", x.feed('s'), Check.FULL);
    c.due("byte 91 again", x.feed(0), Check.FULL);
    c.due("BAD is ahead of FULL", x.feed(-1), Check.BAD);
    c.due("BAD is ahead of FULL", x.feed(256), Check.BAD);
    c.due("there are 90", x.count(9), 90);
    c.due("all 90 are read: the eighth rider's letter", x.stair(), -1000100 - 26);
    c.due("no room for it", x.fault(), 3);
    c.due("the first again", x.feed('m'), 1);
  }

  @Holds("`int stair()`: The tape, empty then, is read: how many RIDERS there are.")
  static void stairEmptiesTheTape() {
    StepRiders x = new StepRiders();
    c.due("a stair", Check.read(x, "m4,1;s0;t1;"), 2);
    c.due("bytes", x.count(9), 0);
    c.due("none is left to read", x.stair(), -1000100);
    c.due("a fault", Check.read(x, "m4,1;s0;t"), -1000109);
    c.due("bytes behind a fault", x.count(9), 0);
    c.due("it does not go on there", Check.read(x, "1;"), -1000100);
    c.due("the stair stays", x.count(1), 2);
  }

  @Holds({"-1000100 less the place of a FAULT: all stays."})
  static void faultLeavesAll() {
    for (String text : new String[] {"", "m3,1;s0;", "m12,0;t0;s", SEVEN + "t0;"}) {
      StepRiders one = used();
      c.so("'" + text + "' is a fault", Check.read(one, text) <= -1000100);
      String with = Whole.of(() -> {
        StepRiders x = used();
        Check.read(x, text);
        return x;
      });
      c.same("'" + text + "' changes something", butFault(with), butFault(Whole.of(() -> used())));
      c.due("status()", one.status(), 2);
    }
  }

  private static String butFault(String whole) {
    return whole.replaceAll("fault \\d", "fault");
  }

  /** With riders in the queue, on and off, acts, an image, rows, a trace, but no fault yet. */
  private static StepRiders used() {
    StepRiders x = Check.of("m6,1;w0;s1;t0;s0;");
    Check.row(x, 1, 4, 5);
    x.ticks(3);
    x.image(1);
    x.take(1);
    x.cross(3);
    x.ask(0, 0);
    x.set(1, 2, 0);
    return x;
  }

  @Holds({"TOKENS: letters a to z (each by itself)", "nothing else, no blanks."})
  static void tokensAreNothingElse() {
    for (int b = 0; b < 256; b++) {
      char sign = (char) b;
      boolean sort = "swrtc".indexOf(sign) >= 0;
      StepRiders x = new StepRiders();
      c.due("m4,1;s0; and byte " + b, Check.read(x, "m4,1;s0;" + sign), -1000100 - (sort ? 9 : 8));
      c.due("its fault", x.fault(), 1);
      c.due("byte " + b + " alone", Check.read(x, "" + sign), -1000100 - (b == 'm' ? 1 : 0));
      boolean figure = b >= '0' && b <= '9';
      boolean steps = figure && b <= '2';
      c.due("m1, byte " + b, Check.read(x, "m1" + sign), -1000100 - (steps ? 3 : 1));
      c.due("its fault", x.fault(), steps ? 1 : 2);
      c.due("m4,1;s0 and byte " + b, Check.read(x, "m4,1;s0" + sign), b == ';' ? 1 : -1000100 - (figure ? b > '1' ? 6 : 8 : 7));
    }
    fault("ms", 1, 1);
    fault("m4,1;ss0;", 6, 1);
    fault(" m4,1;s0;", 0, 1);
    fault("m 4,1;s0;", 1, 1);
    fault("m4,1; s0;", 5, 1);
    fault("m4,1;s0;\n", 8, 1);
  }

  @Holds({"NUMBERS (figures, 2 at most)", "(a run of three figures, at its first;"})
  static void numbersOfTwoFigures() {
    read("m04,02;s01;", 1, 4, 2);
    read("m4,00;s00;", 1, 4, 0);
    fault("m004,1;s0;", 1, 1);
    fault("m120,1;s0;", 1, 1);
    fault("m999,1;s0;", 1, 1);
    fault("m4,001;s0;", 3, 1);
    fault("m4,1;s000;", 6, 1);
    fault("m4,1;s0001", 6, 1);
    fault("m4,1;s000", 6, 1);
    fault("m4,1;s00", 8, 1);
    fault("000", 0, 1);
    fault("m4,1;s0;111", 8, 1);
    StringBuilder long89 = new StringBuilder("m");
    for (int i = 0; i < 89; i++) long89.append('1');
    fault(long89.toString(), 1, 1);
  }

  @Holds({"SIGNS , and ;"})
  static void signsInTheirPlaces() {
    fault("m4;1;s0;", 2, 1);
    fault("m4,1,s0;", 4, 1);
    fault("m4,1;s0,", 7, 1);
    fault("m4,,1;s0;", 3, 1);
    fault("m4,1;;s0;", 5, 1);
    fault("m4,1;s0;;", 8, 1);
    fault("m4,1;s,0;", 6, 1);
    fault(",", 0, 1);
    fault(";", 0, 1);
  }

  @Holds("stair: law rider { rider }.")
  static void oneRiderAtLeast() {
    fault("", 0, 1);
    fault("m4,1;", 5, 1);
    fault("s0;", 0, 1);
    fault("s0;m4,1;", 0, 1);
    fault("m4,1;m4,1;s0;", 5, 1);
    fault("m4,1;s0;m4,1;", 8, 1);
    read("m4,1;s0;", 1, 4, 1);
    read("m4,1;s0;s0;", 2, 4, 1);
  }

  @Holds({"law: m STEPS , SPEED ; (4 to 12: STEPS 0, at the foot, 1, ..; 0 to 2).", "2 a NUMBER that is not as told;"})
  static void stepsAndSpeeds() {
    for (int steps = 0; steps < 100; steps++) {
      boolean fine = steps >= 4 && steps <= 12;
      if (fine) read("m" + steps + ",1;s0;", 1, steps, 1);
      else fault("m" + steps + ",1;s0;", 1, 2);
    }
    for (int speed = 0; speed < 100; speed++) {
      if (speed <= 2) read("m12," + speed + ";s0;", 1, 12, speed);
      else fault("m12," + speed + ";s0;", 4, 2);
    }
    StepRiders x = Check.of("m12,1;s0;");
    x.ticks(1);
    c.due("the first STEP is at the foot", x.rider(0, 0), 0);
    x.ticks(11);
    c.due("the uppermost", x.rider(0, 0), 11);
    x.ticks(1);
    c.due("beyond it", x.rider(0, 0), 99);
  }

  @Holds({"rider: SORT LANE ; (SORT: s one who stands, w who walks, r who runs, t with a trunk, c a child; 0 right, 1 left;"})
  static void sortsAndLanes() {
    for (char sort = 'a'; sort <= 'z'; sort++) {
      int kind = "-swrtc".indexOf(sort);
      if (kind < 0) {
        fault("m4,1;" + sort + "0;", 5, 1);
        continue;
      }
      StepRiders x = Check.of("m4,1;" + sort + "1;");
      c.due(sort + " is of kind", x.kind(0), kind);
      c.due(sort + " in lane", x.rider(0, 1), 1);
    }
    for (int lane = 0; lane < 100; lane++) {
      if (lane > 1) {
        fault("m4,1;s" + lane + ";", 6, 2);
        continue;
      }
      StepRiders x = Check.of("m4,1;s" + lane + ";");
      c.due("lane", x.rider(0, 1), lane);
    }
    fault("m4,1;S0;", 5, 1);
  }

  @Holds({"RIDERS 0 .. 6, 7 at most).", "3 a rider more than there is room for (its letter)."})
  static void sevenRidersAndOneMore() {
    read(SEVEN, 7, 9, 1);
    StepRiders x = Check.of(SEVEN);
    c.due("kind(6)", x.kind(6), 4);
    c.due("kind(7)", x.kind(7), Check.BAD);
    for (String more : new String[] {"c", "c0;", "s9;", "t000", "w;", "r0;r0;", "c0;x"}) fault(SEVEN + more, 26, 3);
    read("m12,02;c01;c00;c01;c00;c01;c00;c01;", 7, 12, 2);
    fault("m12,02;c01;c00;c01;c00;c01;c00;c01;c", 35, 3);
  }

  @Holds({"A STAIR that is read stands in place of the one before (none at first): TICK 0, all RIDERS are in the QUEUE, by their numbers; no ACT can be undone."})
  static void anotherStair() {
    StepRiders x = Check.of("m12,2;s1;s1;t1;");
    x.ticks(24);
    x.again(0, 1);
    x.speed(0);
    c.due("read", Check.read(x, "m5,1;w0;c0;"), 2);
    int[] want = {0, 2, 5, 0, 1, 2, 0, 0, 0, 0};
    for (int k = 0; k < 10; k++) c.due("count(" + k + ")", x.count(k), want[k]);
    c.places("all in the queue", x, "-1 -1");
    c.same("lanes", Check.lanes(x), "0 0");
    c.due("kinds", x.kind(0) * 10 + x.kind(1), 25);
    c.due("undo()", x.undo(), Check.STATE);
    c.due("the third is none of it", x.rider(2, 0), Check.BAD);
    c.due("nor is the sixth step", x.step(5, 0), Check.BAD);
    x.ticks(1);
    c.due("acts of its own alone", x.undo(), 0);
    c.due("undo()", x.undo(), Check.STATE);
    c.due("the same again", Check.read(x, "m5,1;w0;c0;"), 2);
    c.places("all in the queue", x, "-1 -1");
  }

  @Holds("A STAIR that is read stands in place of the one before")
  static void anotherStairLeavesTheRest() {
    StepRiders x = used();
    Check.read(x, "m3");
    Check.read(x, "m5,1;w0;c0;");
    c.due("rows", x.count(0), 1);
    c.due("the trace", x.trace(0) * 100 + x.trace(5), 1220);
    c.due("the fault", x.fault(), 2);
    c.due("status()", x.status(), 2);
    c.due("an image that was not kept", x.restore(0), Check.STATE);
    c.due("an image that was", x.restore(1), 1);
    c.places("as kept", x, "4 1 0 -1");
    c.same("items", Check.items(x, 1), "4 5");
  }

  @Holds({"FAULTS, the first TOKEN that has one (its first byte), of one TOKEN the least: 1 it cannot stand there, or is none"})
  static void firstAndLeastFault() {
    fault("m3,3;x", 1, 2);
    fault("m13,3;s2;", 1, 2);
    fault("m4,3;s2;", 3, 2);
    fault("m4,1;s2;x", 6, 2);
    fault("m4,1;x2;", 5, 1);
    fault("m4,1;s22;", 6, 2);
    fault("m99;", 1, 2);
    fault("mx99", 1, 1);
    fault("m4,1;99", 5, 1);
    fault("m4,1;s0;99", 8, 1);
    fault("m4,199;", 3, 1);
    fault(SEVEN + "x", 26, 1);
    fault(SEVEN + "5", 26, 1);
    fault(SEVEN + "555", 26, 1);
    fault(SEVEN + ";", 26, 1);
    fault(SEVEN + "m", 26, 1);
    fault(SEVEN + "S", 26, 1);
    fault("m9,1;s0;s1;w0;w1;r0;r1;t2;c0;", 24, 2);
    fault("99", 0, 1);
  }

  @Holds("the end: how many bytes there are);")
  static void faultOfTheEnd() {
    String text = "m12,02;s01;";
    int[] ends = {0, 1, -1, 3, 4, -1, 6, 7, 8, -1, 10};
    for (int n = 0; n < ends.length; n++) if (ends[n] >= 0) fault(text.substring(0, n), n, 1);
    fault("m1", 1, 2);
    fault("m12,0", 5, 1);
    fault("m12,02;s0", 9, 1);
    read(text, 1, 12, 2);
    fault(SEVEN.substring(0, 25), 25, 1);
    fault("m12,02;c01;c00;c01;c00;c01;c00;c01", 34, 1);
  }

  @Holds("`int fault()`: The number of the latest FAULT; 0 before one.")
  static void latestFault() {
    StepRiders x = new StepRiders();
    c.due("before one", x.fault(), 0);
    Check.read(x, "m4,1;s0;");
    c.due("before one, behind a stair", x.fault(), 0);
    Check.read(x, SEVEN + "s0;");
    c.due("no room", x.fault(), 3);
    Check.feed(x, "m4,1;s0;");
    c.due("bytes that are not read yet", x.fault(), 3);
    x.stair();
    c.due("behind a stair, still the latest", x.fault(), 3);
    Check.read(x, "m3");
    c.due("not as told", x.fault(), 2);
    x.stair();
    c.due("the end", x.fault(), 1);
    x.feed(-1);
    x.undo();
    x.set(0, 0, 0);
    c.due("no refusal of another call", x.fault(), 1);
  }

  public static void main(String[] args) {
    c.runAll(TapeEdgeTest.class);
  }
}
