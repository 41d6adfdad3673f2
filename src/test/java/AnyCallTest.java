import java.util.Random;

/**
 * Every call with any arguments in any state: none throws but what the document names, and none
 * takes long. Runs are of up to 512 calls, as an object is used for.
 */
public final class AnyCallTest {
  private static final int[] EDGES = {Integer.MIN_VALUE, Integer.MIN_VALUE + 1, -20000, -201, -101,
      -16, -6, -2, 99, 100, 101, 119, 120, 121, 1010, 4012, 8021, 20000, 20001, 20010, 99095,
      1 << 16, 1 << 30, Integer.MAX_VALUE - 1, Integer.MAX_VALUE};
  private static final int KINDS_OF_CALLS = 45, CALLS_OF_A_ROW = 17;
  private static int wrong = 0;

  public static void main(String[] args) {
    for (int seed = 0; seed < 5000 && wrong < 10; seed++) {
      Random dice = new Random(seed);
      LightScript x = new LightScript();
      int calls = 0;
      while (calls <= 512 - CALLS_OF_A_ROW && wrong < 10) {
        int call = dice.nextInt(KINDS_OF_CALLS);
        try {
          call(x, dice, call);
        } catch (RuntimeException e) {
          wrong++;
          System.out.println("seed " + seed + ", call " + calls + " of " + call + " threw " + e);
        }
        calls += isRow(call) ? CALLS_OF_A_ROW : 1;
      }
    }
    widest();
    System.out.println(wrong == 0 ? "all answers are as due" : wrong + " answers are not as due");
    if (wrong != 0) {
      System.exit(1);
    }
  }

  private static int any(Random dice) {
    int sort = dice.nextInt(20);
    if (sort == 0) {
      return EDGES[dice.nextInt(EDGES.length)];
    }
    return sort < 14 ? dice.nextInt(6) - 1 : sort < 19 ? dice.nextInt(50) - 5 : dice.nextInt();
  }

  private static void call(LightScript x, Random dice, int call) {
    int a = any(dice);
    int b = any(dice);
    int c = any(dice);
    int d = any(dice);
    int e = any(dice);
    switch (call) {
      case 0 -> {
        if (dice.nextInt(20) == 0) {
          x.begin();
        }
      }
      case 1 -> x.cell(a, b, c);
      case 2 -> x.kind(a, b, c, d, e);
      case 3, 42 -> x.kind(dice.nextInt(12), 1 + dice.nextInt(30), 10 + dice.nextInt(290),
          dice.nextInt(61), 1000 * (1 + dice.nextInt(99)) + 10 * (1 + dice.nextInt(9)));
      case 4 -> x.barge(a, b, c, d);
      case 5 -> x.wind(a, b, c, d);
      case 6 -> x.apart(a);
      case 7 -> x.may(a, b);
      case 8 -> x.safe(a, b, c, d);
      case 9 -> x.hot(a, b, c, d, e);
      case 10, 11 -> x.write(a);
      case 12 -> {
        try {
          x.cue(a, b);
        } catch (IllegalArgumentException | IllegalStateException thrown) {
          return;
        }
      }
      case 13 -> x.stretch(a, b, c);
      case 14 -> x.lay(a);
      case 15 -> x.proof(a, b);
      case 16 -> x.place(a, b);
      case 17 -> x.meter(a, b, c);
      case 18 -> x.knows(a);
      case 19 -> x.hold(a);
      case 20 -> x.holdless();
      case 21 -> x.fault(a, b);
      case 22 -> x.halt(a);
      case 23 -> x.fate(a);
      case 24 -> {
        try {
          x.goes(a, b);
        } catch (IllegalArgumentException | IllegalStateException thrown) {
          return;
        }
      }
      case 25 -> x.many(a);
      case 26 -> x.order(a);
      case 27 -> x.seen(a, b);
      case 28 -> x.unseen();
      case 29 -> x.duds();
      case 30 -> x.dud(a);
      case 31 -> x.strange();
      case 32 -> x.tape(a, b, c);
      case 33 -> x.keep(a);
      case 34 -> x.back(a);
      case 35 -> x.toss(a);
      case 36 -> x.clear(a);
      case 37 -> x.put(a, b, (long) c * d);
      case 38 -> {
        try {
          x.at(a, b);
        } catch (IllegalArgumentException | IllegalStateException thrown) {
          return;
        }
      }
      case 39 -> x.copy(a, b, c, d, e);
      case 40 -> x.count(a);
      default -> row(x, dice);
    }
  }

  private static boolean isRow(int call) {
    return call == 41 || call > 42;
  }

  /** A row that has a chance to be one of orders; so many calls as CALLS_OF_A_ROW. */
  private static void row(LightScript x, Random dice) {
    int d = dice.nextInt(6);
    x.tape(d, 1, 4 + dice.nextInt(12));
    x.put(d, 0, 2);
    x.put(d, 1, 3 + dice.nextInt(48));
    for (int i = 2; i < 14; i++) {
      x.put(d, i, dice.nextInt(9));
    }
    x.write(d);
    x.hold(d);
  }

  /** The dearest states: 120 cues, 12 kinds that are in reach of a crowd, 60 bursts seen. */
  private static void widest() {
    LightScript x = new LightScript();
    for (int k = 0; k < 12; k++) {
      x.kind(k, 5, 300, 60, 99015);
    }
    for (int s = 0; s < 6; s++) {
      x.barge(s, 5 * s, 10, 40);
      x.cell(5 * s, 17, 2);
      x.cell(5 * s, 10, 1);
    }
    int[] row = {8, 50, 6, 8, 6, 5, 2, 1, 3, 11, 5, 3, 7, 7, 0};
    x.tape(0, 1, row.length);
    for (int i = 0; i < row.length; i++) {
      x.put(0, i, row[i]);
    }
    due("write", x.write(0), 120);
    for (int i = 0; i < 60; i++) {
      x.seen(50 * (i % 40) + 50, 1);
    }
    x.put(0, 0, 2);
    x.put(0, 1, 9);
    x.put(0, 2, 0);
    due("hold", x.hold(0), 0);
    due("many", x.many(0), 120);
    for (int c = 0; c < 120; c++) {
      due("dud: of three alike one or two were seen", x.dud(c), 1);
    }
    for (int c = 0; c < 8; c++) {
      x.place(c, -1);
    }
    due("lay, none may hold it", x.lay(4), -3);
    for (int i = 0; i < 20; i++) {
      int[] open = {2, 1, 6, 2, 1, 1, -1, 0, 2, 1, 1, 1, -1, 0, 2, 1, 1, 1, -1, 0, 2, 1, 7, 1, 1,
          -1, 0, 1, 1, -1, 0, 0};
      LightScript y = new LightScript();
      y.kind(1, 5, 50, 0, 1010);
      for (int s = 0; s < 6; s++) {
        y.barge(s, 5 * s, 10, s == 5 ? 2 : 1);
      }
      y.tape(0, 1, open.length);
      for (int p = 0; p < open.length; p++) {
        y.put(0, p, open[p]);
      }
      due("write", y.write(0), 8);
      due("lay, a channel lacks", y.lay(4), -3);
      y.barge(0, 0, 10, 2);
      due("lay, just enough", y.lay(4), 2);
    }
  }

  private static void due(String call, long got, long want) {
    if (got != want) {
      wrong++;
      System.out.println(call + " answered " + got + ", due is " + want);
    }
  }
}
