// The boundaries that part II and promises 11 to 13 and 16 name, each on both its sides.
public final class CueEdgeTest {
  private static final long IAE = Long.MIN_VALUE;
  private static final long ISE = Long.MIN_VALUE + 1;
  private static final int MIN = Integer.MIN_VALUE;
  private static final int MAX = Integer.MAX_VALUE;
  private static int wrong = 0;

  private static void due(String call, long got, long want) {
    if (got != want) {
      wrong++;
      System.out.println(call + " answered " + got + ", due is " + want);
    }
  }

  private static long cue(LightScript x, int c, int what) {
    try {
      return x.cue(c, what);
    } catch (IllegalArgumentException e) {
      return IAE;
    } catch (IllegalStateException e) {
      return ISE;
    }
  }

  private static int write(LightScript x, int... row) {
    x.tape(0, 1, row.length);
    for (int i = 0; i < row.length; i++) {
      if (row[i] != 0) {
        x.put(0, i, row[i]);
      }
    }
    return x.write(0);
  }

  private static int[] join(int[]... rows) {
    int length = 0;
    for (int[] row : rows) {
      length += row.length;
    }
    int[] joined = new int[length];
    int at = 0;
    for (int[] row : rows) {
      System.arraycopy(row, 0, joined, at, row.length);
      at += row.length;
    }
    return joined;
  }

  /** ORDERS after which now is a TICK (51 or more), and a BEAT is 1 TICK. */
  private static int[] until(int tick) {
    int[] row = {8, 50};
    int left = tick;
    while (left >= 2550) {
      row = join(row, new int[] {2, 50});
      left -= 2500;
    }
    return join(row, new int[] {2, (left - 1) / 50, 8, 1, 2, (left - 1) % 50 + 1});
  }

  /** ORDERS that make 116 to 120 CUES of KIND 0 at TICK 10. */
  private static int[] many(int cues) {
    return new int[] {2, 1, 6, 9, 3, 0, 0, 5, 7, 6, 9, 3, 0, 0, 5, 7, 6, 5, 3, 0, 0, 5, 7,
        3, 0, 0, cues - 115};
  }

  /** KIND 0 (LIFT 5), 11 (LIFT 60); BARGES 0, 1 and 5. */
  private static LightScript desk() {
    LightScript x = new LightScript();
    x.kind(0, 5, 50, 0, 1010);
    x.kind(11, 60, 50, 0, 1020);
    x.barge(0, 5, 5, 40);
    x.barge(1, 10, 5, 40);
    x.barge(5, 15, 5, 40);
    return x;
  }

  /** The whole row makes so many CUES; a desk of its own, so that it is used for few calls. */
  private static void dueCues(String name, int cues, int[]... rows) {
    LightScript x = desk();
    due(name, write(x, join(rows)), cues);
    due(name + ": count", x.count(2), cues);
  }

  /** The fault is at a place of the last but one row; no CUES are made. */
  private static void dueFault(String name, int[] ahead, int... orders) {
    LightScript x = desk();
    due(name, write(x, join(ahead, orders)), -100 - ahead.length);
    due(name + ": count", x.count(2), 0);
  }

  private static int[] row(int... orders) {
    return orders;
  }

  private static final int[] BEAT = {2, 1};

  public static void main(String[] args) {
    tapesFrom0To5();
    ordersFrom0To8();
    eachOrderLacksANumber();
    kindsThatWereTold();
    bargesThatWereTold();
    openOnlyInOneAndThree();
    angleFrom4To4();
    beatsFrom1To50();
    cuesNowFrom1To5();
    beatsBehindFrom0To50();
    upOrDown();
    timesFrom2To9();
    threeDeepAtMost();
    sevenWithoutSix();
    zeroWithinOne();
    beatOf1To50Ticks();
    noEnd();
    rowsOf0To100();
    fireBelow0();
    burstAbove20000();
    theHundredTwentyFirst();
    firstAsTheyCome();
    startsAtTick0();
    whatsAndCues();
    stretchNumbers();
    stretchFromItsTick();
    stretchWholeNumbers();
    stretchBelow0();
    stretchAbove20000();
    placeNumbers();
    whatGoesWithTheCues();
    System.out.println(wrong == 0 ? "all answers are as due" : wrong + " answers are not as due");
    if (wrong != 0) {
      System.exit(1);
    }
  }

  private static void tapesFrom0To5() {
    for (int d = 0; d < 6; d++) {
      LightScript x = desk();
      due("write nothing", x.write(d), -11);
      x.tape(d, 1, 1);
      due("write a row on TAPE " + d, x.write(d), 0);
    }
    for (int d : new int[] {-1, 6, MIN, MAX}) {
      due("write(" + d + ")", desk().write(d), -1);
    }
  }

  // "no ORDER": 0 to 8 are.
  private static void ordersFrom0To8() {
    for (int order : new int[] {-128, -2, -1, 9, 10, 100, 127}) {
      dueFault("order " + order, row(), order, 1, 1, 1, 1, 0);
      dueFault("order " + order, BEAT, order, 1, 1, 1, 1, 0);
      dueFault("order " + order + " as the last", BEAT, order);
    }
    dueCues("order 0", 0, BEAT, row(0));
    dueCues("order 1", 1, BEAT, row(1, 0, 0, 0, 0));
    dueCues("order 2", 0, BEAT, row(2, 1, 0));
    dueCues("order 3", 1, BEAT, row(3, 0, 0, 1, 0));
    dueCues("order 4", 1, BEAT, row(4, 0, 0, 0, 0, 0));
    dueCues("order 5", 2, BEAT, row(5, 0, 0, 0, 0, 0));
    dueCues("orders 6 and 7", 0, BEAT, row(6, 2, 7, 0));
    dueCues("order 8", 0, BEAT, row(8, 1, 0));
  }

  // "lacks a number": the ORDER's place; with its numbers, but no end: the row's length.
  private static void eachOrderLacksANumber() {
    int[][] orders = {{1, 0, 0, 0}, {2, 1}, {3, 0, 0, 1}, {4, 0, 0, 1, 1}, {5, 0, 0, 1, 1},
        {6, 2}, {8, 10}};
    for (int[] order : orders) {
      for (int length = 1; length < order.length; length++) {
        int[] cut = new int[length];
        System.arraycopy(order, 0, cut, 0, length);
        dueFault("order " + order[0] + " cut to " + length, BEAT, cut);
        dueFault("order " + order[0] + " cut to " + length, join(BEAT, order[0] == 2 ? BEAT
            : new int[] {1, 0, 0, 0}), cut);
      }
      dueFault("order " + order[0] + " without an end", join(BEAT, order));
    }
    dueFault("orders 6 and 7 without an end", join(BEAT, row(6, 2, 7)));
    dueFault("order 1 lacks its last number in a loop", join(BEAT, row(6, 2)), 1, 0, 0);
  }

  // "names no KIND ... that was told": KINDS 0 and 11 were.
  private static void kindsThatWereTold() {
    int[][] orders = {{1, 0, 0, 0, 0}, {3, 0, 0, 1, 0}, {4, 0, 0, 0, 0, 0}, {5, 0, 0, 0, 0, 0}};
    int[] cues = {1, 1, 1, 2};
    int[] ahead = {2, 6};
    for (int o = 0; o < orders.length; o++) {
      for (int k : new int[] {-128, -1, 1, 10, 12, 127}) {
        orders[o][1] = k;
        dueFault("kind " + k + " in order " + orders[o][0], ahead, orders[o]);
      }
      for (int k : new int[] {0, 11}) {
        orders[o][1] = k;
        dueCues("kind " + k + " in order " + orders[o][0], cues[o], ahead, orders[o]);
      }
    }
  }

  // "names no ... BARGE that was told": BARGES 0, 1 and 5 were.
  private static void bargesThatWereTold() {
    int[] no = {-128, -2, 2, 3, 4, 6, 127};
    for (int s : no) {
      dueFault("barge " + s + " in order 1", BEAT, 1, 0, s, 0, 0);
      dueFault("barge " + s + " in order 3", BEAT, 3, 0, s, 1, 0);
      for (int told : new int[] {0, 1, 5}) {
        dueFault("barge " + s + " in order 5", BEAT, 5, 0, s, told, 1, 0);
        dueFault("second barge " + s + " in order 5", BEAT, 5, 0, told, s, 1, 0);
        dueFault("barge " + s + " in order 4", BEAT, 4, 0, s, told, 1, 0);
        dueFault("second barge " + s + " in order 4", BEAT, 4, 0, told, s, 1, 0);
      }
      dueFault("barges " + s + " in order 4", BEAT, 4, 0, s, s, 1, 0);
      dueFault("barges " + s + " in order 5", BEAT, 5, 0, s, s, 1, 0);
    }
    for (int s : new int[] {0, 1, 5}) {
      dueCues("barge " + s + " in order 1", 1, BEAT, row(1, 0, s, 0, 0));
      dueCues("barge " + s + " in order 3", 1, BEAT, row(3, 0, s, 1, 0));
      dueCues("barge " + s + " in order 4", 1, BEAT, row(4, 0, s, s, 1, 0));
      dueCues("barge " + s + " in order 5", 2, BEAT, row(5, 0, s, 5, 1, 0));
    }
  }

  // "(s -1: OPEN)" is told of 1 and 3 alone.
  private static void openOnlyInOneAndThree() {
    LightScript x = desk();
    due("order 1", write(x, 2, 1, 1, 0, -1, 0, 0), 1);
    due("it is OPEN", cue(x, 0, 2), -1);
    due("it is OPEN", x.count(3), 1);
    due("order 3", write(x, 2, 1, 3, 0, -1, 2, 0), 2);
    due("they are OPEN", x.count(3), 2);
    dueFault("order 4", BEAT, 4, 0, -1, 0, 1, 0);
    dueFault("order 4", BEAT, 4, 0, 0, -1, 1, 0);
    dueFault("order 4", BEAT, 4, 0, -1, -1, 1, 0);
    dueFault("order 5", BEAT, 5, 0, -1, 0, 1, 0);
    dueFault("order 5", BEAT, 5, 0, 0, -1, 1, 0);
    dueFault("order 5", BEAT, 5, 0, -1, -1, 1, 0);
  }

  // "1 k s a", ANGLES are -4 .. 4.
  private static void angleFrom4To4() {
    for (int angle = -4; angle <= 4; angle++) {
      LightScript x = desk();
      due("angle " + angle, write(x, 2, 1, 1, 0, 0, angle, 0), 1);
      due("angle " + angle, cue(x, 0, 3), angle);
    }
    for (int angle : new int[] {-128, -6, -5, 5, 6, 127}) {
      dueFault("angle " + angle, BEAT, 1, 0, 0, angle, 0);
      dueFault("angle " + angle + " of an OPEN one", BEAT, 1, 0, -1, angle, 0);
    }
  }

  // "2 n: now is n BEATS later (1 .. 50)"
  private static void beatsFrom1To50() {
    for (int n : new int[] {1, 2, 49, 50}) {
      LightScript x = desk();
      due("2 " + n, write(x, 2, n, 1, 0, 0, 0, 0), 1);
      due("burst", cue(x, 0, 0), 10 * n);
    }
    for (int n : new int[] {-128, -1, 0, 51, 127}) {
      dueFault("2 " + n, row(), 2, n, 0);
      dueFault("2 " + n, BEAT, 2, n, 0);
    }
  }

  // "3 k s n: n CUES now (1 .. 5 ...), the i-th (from 0) at the ANGLE 2 i - (n - 1)"
  private static void cuesNowFrom1To5() {
    int[][] angles = {{0}, {-1, 1}, {-2, 0, 2}, {-3, -1, 1, 3}, {-4, -2, 0, 2, 4}};
    for (int n = 1; n <= 5; n++) {
      for (int s = -1; s <= 1; s++) {
        LightScript x = desk();
        due("3 of " + n, write(x, 2, 1, 3, 0, s, n, 0), n);
        for (int i = 0; i < n; i++) {
          due("angle " + i + " of " + n, cue(x, i, 3), angles[n - 1][i]);
          due("barge " + i + " of " + n, cue(x, i, 2), s);
          due("burst " + i + " of " + n, cue(x, i, 0), 10);
        }
        due("no more", cue(x, n, 0), ISE);
      }
    }
    for (int n : new int[] {-128, -1, 0, 6, 127}) {
      dueFault("3 of " + n, BEAT, 3, 0, 0, n, 0);
      dueFault("3 of " + n + " OPEN ones", BEAT, 3, 0, -1, n, 0);
    }
  }

  // "g BEATS (0 .. 50)", in 4 and in 5
  private static void beatsBehindFrom0To50() {
    for (int order = 4; order <= 5; order++) {
      for (int g : new int[] {0, 1, 49, 50}) {
        LightScript x = desk();
        due(order + " " + g, write(x, 2, 1, order, 0, 0, 1, g, 1, 0, 5, 3, 0), 3);
        due("the first is now", cue(x, 0, 0), 10);
        due("the second is behind", cue(x, 1, 0), 10 + 10 * g);
        due("now isn't moved", cue(x, 2, 0), 10);
        due("their angles", cue(x, 0, 3) + cue(x, 1, 3), 0);
      }
      for (int g : new int[] {-128, -1, 51, 127}) {
        dueFault(order + " " + g, BEAT, order, 0, 0, 1, g, 0);
        dueFault(order + " " + g + " of one barge", BEAT, order, 0, 0, 0, g, 0);
      }
    }
  }

  // "a CUE from each BARGE from s to e, up or down, each g BEATS ... behind the one ahead"
  private static void upOrDown() {
    for (int s = 0; s < 6; s++) {
      for (int e = 0; e < 6; e++) {
        LightScript x = desk();
        for (int b = 2; b < 5; b++) {
          x.barge(b, 20, 5, 1);
        }
        int n = Math.abs(e - s) + 1;
        due("4 from " + s + " to " + e, write(x, 2, 1, 8, 3, 4, 0, s, e, 2, 0), n);
        for (int i = 0; i < n; i++) {
          due("barge " + i, cue(x, i, 2), s <= e ? s + i : s - i);
          due("burst " + i, cue(x, i, 0), 10 + 6 * i);
          due("angle " + i, cue(x, i, 3), 0);
          due("kind " + i, cue(x, i, 1), 0);
        }
      }
    }
    // 2 to 4 aren't told.
    dueFault("4 over barges that aren't told", BEAT, 4, 0, 0, 5, 1, 0);
    dueFault("4 over barges that aren't told", BEAT, 4, 0, 5, 1, 1, 0);
    dueCues("4 over told ones", 2, BEAT, row(4, 0, 1, 0, 1, 0));
    dueCues("5 goes from one to the other alone", 2, BEAT, row(5, 0, 0, 5, 1, 0));
  }

  // "comes n times (2 .. 9)"
  private static void timesFrom2To9() {
    for (int n = 2; n <= 9; n++) {
      LightScript x = desk();
      due("6 " + n, write(x, 6, n, 2, 1, 1, 0, 0, 0, 7, 1, 0, 0, 0, 0), n + 1);
      for (int c = 0; c < n; c++) {
        due("burst " + c + " of " + n, cue(x, c, 0), 10 + 10 * c);
      }
      due("behind its end", cue(x, n, 0), 10 * n);
    }
    for (int n : new int[] {-128, -1, 0, 1, 10, 127}) {
      dueFault("6 " + n, row(), 6, n, 2, 1, 7, 0);
      dueFault("6 " + n + " in another", row(6, 2), 6, n, 7, 7, 0);
    }
  }

  // "3 deep at most", "a 6 that would be 4 deep"
  private static void threeDeepAtMost() {
    int[] three = {6, 2, 6, 3, 6, 4};
    dueCues("3 deep", 24, BEAT, three, row(1, 0, 0, 0, 7, 7, 7, 0));
    dueFault("4 deep", three, 6, 2, 7, 7, 7, 7, 0);
    dueFault("4 deep, all else well", join(BEAT, three), 6, 2, 1, 0, 0, 0, 7, 7, 7, 7, 0);
    dueFault("4 deep behind a CUE", join(BEAT, three, row(1, 0, 0, 0)), 6, 2, 7, 7, 7, 7, 0);
    dueCues("3 deep, and again", 2 * (3 + 3 + 1), BEAT,
        row(6, 2, 6, 3, 1, 0, 0, 0, 7, 6, 3, 1, 0, 0, 0, 7, 1, 0, 0, 0, 7, 0));
    dueCues("3 deep, and 3 deep again", 16, BEAT,
        row(6, 2, 6, 2, 6, 2, 1, 0, 0, 0, 7, 6, 2, 1, 0, 0, 0, 7, 7, 7, 0));
    dueFault("4 deep behind another third", row(6, 2, 6, 2, 6, 2, 7, 6, 2), 6, 2, 7, 7, 7, 7, 0);
    // 9 times 9 times 9 of nothing come to an end.
    dueCues("729 times", 0, row(6, 9, 6, 9, 6, 9, 8, 1, 7, 7, 7, 0));
    LightScript x = desk();
    due("729 times 2 1", write(x, 8, 1, 6, 9, 6, 9, 6, 9, 2, 1, 7, 7, 7, 1, 0, 0, 0, 0), 1);
    due("burst", cue(x, 0, 0), 729);
  }

  // "a 7 without a 6"
  private static void sevenWithoutSix() {
    dueFault("7 at first", row(), 7, 0);
    dueFault("7 behind another's end", row(6, 2, 7), 7, 0);
    dueFault("7 behind three ends", row(6, 2, 6, 2, 6, 2, 7, 7, 7), 7, 0);
    dueCues("7 with its 6", 0, row(6, 2, 7, 0));
  }

  // "a 0 within one"
  private static void zeroWithinOne() {
    dueFault("0, one deep", row(6, 2), 0, 7, 0);
    dueFault("0, two deep", row(6, 2, 6, 2), 0, 7, 7, 0);
    dueFault("0, three deep", row(6, 2, 6, 2, 6, 2), 0, 7, 7, 7, 0);
    dueFault("0, one deep again", row(6, 2, 6, 2, 7), 0, 7, 0);
    dueFault("0, one deep, the last in the row", row(6, 2), 0);
    dueCues("0 behind its end", 0, row(6, 2, 6, 2, 7, 7, 0));
  }

  // "8 t: a BEAT is t TICKS (1 .. 50) from now on", "a BEAT is 10 TICKS at first"
  private static void beatOf1To50Ticks() {
    for (int t : new int[] {1, 2, 49, 50}) {
      LightScript x = desk();
      due("8 " + t, write(x, 2, 1, 8, t, 1, 0, 0, 0, 2, 3, 1, 0, 0, 0, 0), 2);
      due("what was is as it was", cue(x, 0, 0), 10);
      due("three such beats", cue(x, 1, 0), 10 + 3 * t);
    }
    for (int t : new int[] {-128, -1, 0, 51, 127}) {
      dueFault("8 " + t, row(), 8, t, 0);
      dueFault("8 " + t, BEAT, 8, t, 0);
    }
    LightScript x = desk();
    due("8 holds on behind its loop", write(x, 2, 1, 6, 2, 8, 3, 7, 2, 1, 1, 0, 0, 0, 0), 1);
    due("burst", cue(x, 0, 0), 13);
    due("8 holds for 4 and 5", write(x, 2, 1, 8, 3, 4, 0, 0, 1, 2, 5, 0, 0, 1, 4, 0), 4);
    due("burst of 4", cue(x, 1, 0), 16);
    due("burst of 5", cue(x, 3, 0), 22);
  }

  // "or the row's length if it has no end"
  private static void noEnd() {
    dueFault("no row", row());
    dueFault("no end", BEAT);
    dueFault("no end in a loop", row(6, 2));
    dueFault("no end two deep", row(6, 2, 6, 2, 7));
    dueFault("no end behind a CUE", join(BEAT, row(1, 0, 0, 0)));
    LightScript x = desk();
    due("what stands behind the end doesn't matter", write(x, 2, 1, 0, 9, 7, 1), 0);
    due("nor an order that lacks numbers there", write(x, 0, 1), 0);
  }

  private static void rowsOf0To100() {
    for (int length : new int[] {0, 1, 2, 50, 98, 99, 100}) {
      int[] orders = new int[length];
      for (int i = 0; i + 1 < length; i += 2) {
        orders[i] = 2;
        orders[i + 1] = 1;
      }
      LightScript x = desk();
      // Of an odd length the last is a 0; of an even length none is.
      due("a row of " + length, write(x, orders), length % 2 == 1 ? 0 : -100 - length);
    }
    int[] last = new int[100];
    for (int i = 0; i < 96; i += 2) {
      last[i] = 2;
      last[i + 1] = 1;
    }
    last[96] = 1;
    LightScript x = desk();
    due("a CUE at the row's last places, but no end", write(x, last), -200);
    last[95] = 0;
    due("the wrong one far behind", write(x, last), -194);
  }

  // "makes a CUE whose FIRE would be below 0"
  private static void fireBelow0() {
    int[][] orders = {{1, 0, 0, 0, 0}, {1, 0, -1, 0, 0}, {3, 0, 0, 2, 0}, {4, 0, 0, 1, 50, 0},
        {5, 0, 0, 1, 50, 0}};
    int[] cues = {1, 1, 2, 2, 2};
    for (int o = 0; o < orders.length; o++) {
      for (int tick = 1; tick <= 8; tick++) {
        int[] ahead = {8, 1, 2, tick};
        if (tick < 5) {
          dueFault("order " + orders[o][0] + " at " + tick, ahead, orders[o]);
        } else {
          dueCues("order " + orders[o][0] + " at " + tick, cues[o], ahead, orders[o]);
        }
      }
      dueFault("order " + orders[o][0] + " at 0", row(), orders[o]);
    }
    dueFault("lift 60 at 59", row(8, 1, 2, 50, 2, 9), 1, 11, 0, 0, 0);
    LightScript x = desk();
    due("lift 60 at 60", write(x, 8, 1, 2, 50, 2, 10, 1, 11, 0, 0, 0), 1);
    due("fire", cue(x, 0, 4), 0);
  }

  // "whose BURST above 20000"
  private static void burstAbove20000() {
    dueCues("1 at 20000", 1, until(20000), row(1, 0, 0, 0, 0));
    dueFault("1 at 20001", until(20001), 1, 0, 0, 0, 0);
    dueCues("1 OPEN at 20000", 1, until(20000), row(1, 0, -1, 0, 0));
    dueFault("1 OPEN at 20001", until(20001), 1, 0, -1, 0, 0);
    dueCues("3 at 20000", 5, until(20000), row(3, 0, 0, 5, 0));
    dueFault("3 at 20001", until(20001), 3, 0, 0, 5, 0);
    dueCues("4 at 19999 and 20000", 2, until(19999), row(4, 0, 0, 1, 1, 0));
    dueFault("4 at 20000 and 20001", until(20000), 4, 0, 0, 1, 1, 0);
    dueCues("4 at 20000 twice", 2, until(20000), row(4, 0, 1, 0, 0, 0));
    dueFault("4 at 20001 twice", until(20001), 4, 0, 1, 0, 0, 0);
    dueCues("5 at 19950 and 20000", 2, until(19950), row(5, 0, 0, 1, 50, 0));
    dueFault("5 at 19951 and 20001", until(19951), 5, 0, 0, 1, 50, 0);
    dueFault("5 at 20001 twice", until(20001), 5, 0, 0, 0, 0, 0);
    dueCues("no CUE behind 20000", 0, until(20001), row(0));
    LightScript x = desk();
    int[] ten = join(until(20000), row(1, 11, 5, -4, 0));
    due("1 at 20000", write(x, ten), 1);
    due("burst", cue(x, 0, 0), 20000);
    due("fire", cue(x, 0, 4), 19940);
  }

  // "or which would be the 121st"
  private static void theHundredTwentyFirst() {
    for (int n = 116; n <= 120; n++) {
      dueCues(n + " CUES", n, many(n), row(0));
    }
    dueCues("1 behind 119", 120, many(119), row(1, 0, 0, 0, 0));
    dueFault("1 behind 120", many(120), 1, 0, 0, 0, 0);
    dueFault("1 OPEN behind 120", many(120), 1, 0, -1, 0, 0);
    dueCues("3 behind 117", 120, many(117), row(3, 0, 0, 3, 0));
    dueFault("3 behind 118", many(118), 3, 0, 0, 3, 0);
    dueCues("4 behind 118", 120, many(118), row(4, 0, 0, 1, 1, 0));
    dueFault("4 behind 119", many(119), 4, 0, 0, 1, 1, 0);
    dueCues("5 behind 118", 120, many(118), row(5, 0, 0, 1, 1, 0));
    dueFault("5 behind 119", many(119), 5, 0, 0, 1, 1, 0);
    dueCues("in a loop behind 116", 120, many(116), row(6, 4, 1, 0, 0, 0, 7, 0));
    dueFault("in a loop behind 117", join(many(117), row(6, 4)), 1, 0, 0, 0, 7, 0);
    dueCues("no more behind 120", 120, many(120), row(2, 1, 6, 9, 7, 0));
    LightScript x = desk();
    due("120", write(x, join(many(118), row(2, 1, 1, 0, 0, 3, 1, 11, 1, -3, 0))), -127 - 6);
    due("120", write(x, join(many(118), row(2, 6, 1, 0, 0, 3, 1, 11, 1, -3, 0))), 120);
    due("the last but one", cue(x, 118, 3), 3);
    due("the last", cue(x, 119, 3), -3);
    due("the last", cue(x, 119, 1), 11);
    due("none behind it", cue(x, 120, 3), ISE);
  }

  // "the place of the first ORDER, as they come"
  private static void firstAsTheyCome() {
    LightScript x = desk();
    // The CUE in the loop is beyond 20000 the third time; the fault behind it never comes.
    due("the third time", write(x, join(until(19998), row(6, 4, 1, 0, 0, 0, 2, 1, 7, 9))),
        -100 - until(19998).length - 2);
    due("the fault behind", write(x, join(until(19998), row(6, 3, 1, 0, 0, 0, 2, 1, 7, 9))),
        -100 - until(19998).length - 9);
    due("the first time before the second", write(x, 6, 2, 1, 0, 0, 0, 2, 1, 7, 0), -102);
    due("the first of two", write(x, 2, 0, 9, 0), -100);
    due("the first of two", write(x, 2, 1, 9, 2, 0, 0), -102);
    due("behind a CUE", write(x, 2, 1, 1, 0, 0, 0, 1, 0, 0, 5, 1, 0, 0, 6, 0), -106);
    due("no CUES of any", x.count(2), 0);
  }

  // "BEAT 0 is at TICK 0, a BEAT is 10 TICKS at first": each time anew.
  private static void startsAtTick0() {
    LightScript x = desk();
    for (int turn = 0; turn < 3; turn++) {
      due("write", write(x, 2, 2, 1, 0, 0, 0, 8, 50, 2, 1, 1, 0, 0, 0, 0), 2);
      due("burst", cue(x, 0, 0), 20);
      due("burst", cue(x, 1, 0), 70);
      due("a fault three deep", write(x, 8, 3, 6, 2, 6, 2, 6, 2, 9), -108);
    }
    due("write", write(x, 6, 2, 6, 2, 6, 2, 2, 1, 1, 0, 0, 0, 7, 7, 7, 0), 8);
    due("burst", cue(x, 7, 0), 80);
  }

  // "IllegalArgumentException: no such what; IllegalStateException: no such CUE"
  private static void whatsAndCues() {
    LightScript x = desk();
    write(x, join(many(120), row(0)));
    long[] want = {10, 0, 0, 2, 5};
    for (int c : new int[] {-1, 120, 121, MIN, MAX}) {
      for (int what = 0; what <= 4; what++) {
        due("cue(" + c + ", " + what + ")", cue(x, c, what), ISE);
      }
      for (int what : new int[] {-1, 5, MIN, MAX}) {
        due("cue(" + c + ", " + what + ")", cue(x, c, what), IAE);
      }
    }
    for (int what = 0; what <= 4; what++) {
      due("cue(119, " + what + ")", cue(x, 117, what), what == 3 ? 0 : want[what]);
      due("cue(0, " + what + ")", cue(x, 0, what), what == 3 ? -4 : want[what]);
    }
    for (int what : new int[] {-1, 5, MIN, MAX}) {
      due("cue(0, " + what + ")", cue(x, 0, what), IAE);
      due("cue(119, " + what + ")", cue(x, 119, what), IAE);
    }
    due("three", write(x, 2, 1, 3, 0, 0, 3, 0), 3);
    due("cue(2, 3)", cue(x, 2, 3), 2);
    due("cue(3, 3)", cue(x, 3, 3), ISE);
    due("cue(119, 3)", cue(x, 119, 3), ISE);
  }

  // "NONE: f is not 0 .. 20000, p, q not 1 .. 100"
  private static void stretchNumbers() {
    LightScript x = desk();
    write(x, 2, 10, 1, 0, 0, 0, 0);
    for (int f : new int[] {-1, 20001, MIN, MAX}) {
      due("stretch f " + f, x.stretch(f, 1, 2), -1);
      due("stretch f " + f, x.stretch(f, 1, 1), -1);
    }
    for (int no : new int[] {0, -1, 101, MIN, MAX}) {
      due("stretch p " + no, x.stretch(0, no, 2), -1);
      due("stretch q " + no, x.stretch(0, 2, no), -1);
      due("stretch p, q " + no, x.stretch(0, no, no), -1);
    }
    due("burst", cue(x, 0, 0), 100);
    due("stretch f 20000", x.stretch(20000, 1, 2), 0);
    due("stretch p 100", x.stretch(0, 100, 1), 1);
    due("burst", cue(x, 0, 0), 10000);
    due("stretch q 100", x.stretch(0, 1, 100), 1);
    due("burst", cue(x, 0, 0), 100);
    due("stretch p, q 1", x.stretch(0, 1, 1), 0);
    due("stretch p, q 100", x.stretch(0, 100, 100), 0);
    due("stretch f 0", x.stretch(0, 99, 100), 1);
    due("burst", cue(x, 0, 0), 99);
    LightScript none = new LightScript();
    due("stretch no CUES", none.stretch(0, 100, 1), 0);
    due("stretch no CUES", none.stretch(0, 0, 1), -1);
  }

  // "each CUE's BURST b that isn't below f"
  private static void stretchFromItsTick() {
    LightScript x = desk();
    // Bursts 99, 100, 101.
    int[] three = {8, 33, 2, 3, 1, 0, 0, 0, 8, 1, 2, 1, 1, 0, 0, 0, 2, 1, 1, 0, 0, 0, 0};
    due("write", write(x, three), 3);
    due("stretch from 101", x.stretch(101, 9, 1), 0);
    due("stretch from 102", x.stretch(102, 9, 1), 0);
    due("stretch from 100", x.stretch(100, 9, 1), 1);
    due("burst below", cue(x, 0, 0), 99);
    due("burst at", cue(x, 1, 0), 100);
    due("burst above", cue(x, 2, 0), 109);
    write(x, three);
    due("stretch from 100", x.stretch(100, 1, 9), 1);
    due("burst below", cue(x, 0, 0), 99);
    due("burst at", cue(x, 1, 0), 100);
    due("burst above", cue(x, 2, 0), 100);
    write(x, three);
    due("stretch from 98", x.stretch(98, 3, 1), 3);
    due("burst", cue(x, 0, 0), 101);
    due("burst", cue(x, 1, 0), 104);
    due("burst", cue(x, 2, 0), 107);
  }

  // "f and the greatest whole number not above (b - f) p / q"
  private static void stretchWholeNumbers() {
    for (int q = 1; q <= 100; q += 11) {
      for (int p = 1; p <= 100; p += 9) {
        LightScript x = desk();
        write(x, 8, 1, 2, 50, 2, 50, 1, 0, 0, 0, 2, 17, 1, 0, 0, 0, 0);
        int a = 77 + 23 * p / q;
        int b = 77 + 40 * p / q;
        due("stretch", x.stretch(77, p, q), (a == 100 ? 0 : 1) + (b == 117 ? 0 : 1));
        due("burst by " + p + " / " + q, cue(x, 0, 0), a);
        due("burst by " + p + " / " + q, cue(x, 1, 0), b);
      }
    }
    LightScript x = desk();
    write(x, join(until(20000), row(1, 0, 0, 0, 0)));
    due("stretch far", x.stretch(0, 99, 100), 1);
    due("burst", cue(x, 0, 0), 19800);
    due("stretch far", x.stretch(0, 100, 99), 1);
    due("burst", cue(x, 0, 0), 20000);
  }

  // "EARLY: a FIRE would be below 0"
  private static void stretchBelow0() {
    LightScript x = desk();
    // Of KIND 0 (LIFT 5) at 20, OPEN; of KIND 11 (LIFT 60) at 120.
    write(x, 2, 2, 1, 0, -1, 0, 2, 10, 1, 11, 0, 0, 0);
    due("to 4: FIRE -1", x.stretch(0, 24, 100), -5);
    due("burst", cue(x, 0, 0), 20);
    due("the second to 59: FIRE -1", x.stretch(20, 39, 100), -5);
    due("the second to 60: FIRE 0", x.stretch(20, 40, 100), 1);
    due("fire", cue(x, 1, 4), 0);
    due("the second to 59", x.stretch(58, 1, 2), -5);
    due("the first alone is below f", x.stretch(21, 100, 99), 0);
    x.kind(11, 1, 50, 0, 1020);
    due("to 5: FIRE 0", x.stretch(0, 1, 4), 2);
    due("fire", cue(x, 0, 4), 0);
    due("burst", cue(x, 1, 0), 15);
    due("to 4", x.stretch(0, 99, 100), -5);
    due("burst", cue(x, 1, 0), 15);
  }

  // "FULL: a BURST would be above 20000"
  private static void stretchAbove20000() {
    LightScript x = desk();
    write(x, 2, 10, 1, 0, 0, 0, 8, 50, 2, 50, 2, 50, 2, 50, 2, 48, 1, 0, -1, 0, 0);
    due("burst", cue(x, 1, 0), 10000);
    due("to 10099", x.stretch(9999, 100, 1), 1);
    due("burst", cue(x, 1, 0), 10099);
    due("to 20000", x.stretch(198, 2, 1), 1);
    due("burst", cue(x, 1, 0), 20000);
    due("to 20001", x.stretch(19950, 51, 50), -2);
    due("to 20002", x.stretch(19900, 51, 50), -2);
    due("to 20000 and a half", x.stretch(19950, 100, 99), 0);
    due("burst", cue(x, 0, 0), 100);
    due("burst", cue(x, 1, 0), 20000);
    due("the first changes, the second is FULL", x.stretch(0, 2, 1), -2);
    due("burst", cue(x, 0, 0), 100);
    due("far above", x.stretch(0, 100, 1), -2);
    x.stretch(100, 1, 2);
    due("burst", cue(x, 1, 0), 10050);
    due("to 20000", x.stretch(100, 2, 1), 1);
    due("to 20001", x.stretch(99, 2, 1), -2);
    due("burst", cue(x, 1, 0), 20000);
  }

  // "A CUE's BARGE becomes another (-1: OPEN): the one it had. NONE."
  private static void placeNumbers() {
    LightScript x = desk();
    write(x, 2, 1, 3, 0, 0, 3, 0);
    for (int s : new int[] {-2, 2, 3, 4, 6, MIN, MAX}) {
      due("place on " + s, x.place(0, s), -1);
      due("place on " + s, x.place(2, s), -1);
    }
    for (int c : new int[] {-1, 3, 119, 120, MIN, MAX}) {
      due("place " + c, x.place(c, 0), -1);
      due("place " + c, x.place(c, -1), -1);
    }
    due("still", cue(x, 0, 2) + cue(x, 1, 2) + cue(x, 2, 2), 0);
    int was = 0;
    for (int s : new int[] {5, 1, -1, -1, 0, 0, -1, 5}) {
      due("place on " + s, x.place(2, s), was);
      due("barge", cue(x, 2, 2), s);
      due("the others", cue(x, 0, 2) + cue(x, 1, 2), 0);
      due("OPEN ones", x.count(3), s == -1 ? 1 : 0);
      was = s;
    }
    x.barge(2, 30, 30, 1);
    due("place on one told then", x.place(0, 2), 0);
  }

  /** The HALT, G, the READINGS, the RULES stay; FAULTS and SEEN are gone or not. */
  private static void dueThen(String name, LightScript x, boolean gone) {
    due(name + ": SEEN", x.unseen(), gone ? 0 : 2);
    for (int c = 0; c < 3; c++) {
      due(name + ": fault of " + c, x.fault(c, 4 + c), gone ? 0 : 4 + c);
    }
    due(name + ": halt", x.halt(77), 77);
    due(name + ": apart", x.apart(9), 9);
    due(name + ": READINGS", x.count(4), 1);
    due(name + ": WIND KNOWN", x.knows(5), 3);
    due(name + ": RULES", x.count(5), 1);
    due(name + ": KINDS", x.count(0), 2);
    due(name + ": BARGES", x.count(1), 3);
    due(name + ": a TAPE", x.at(1, 0), 1);
    x.seen(10, 1);
    x.seen(11, 2);
  }

  // "(those of before are gone, also FAULTS and SEEN)": by write and back, by nothing else.
  private static void whatGoesWithTheCues() {
    LightScript x = desk();
    int[] three = {2, 1, 3, 0, 0, 3, 0};
    write(x, three);
    x.keep(2);
    x.apart(9);
    x.halt(77);
    x.meter(3, 5, 5);
    x.tape(1, 1, 3);
    x.put(1, 0, 1);
    x.put(1, 1, 127);
    due("hold", x.hold(1), 0);
    dueThen("at first", x, true);
    dueThen("nothing done", x, false);
    due("stretch", x.stretch(0, 2, 1), 3);
    dueThen("stretch", x, false);
    due("place", x.place(0, 1), 0);
    dueThen("place", x, false);
    due("keep", x.keep(3), 3);
    dueThen("keep", x, false);
    due("kind", x.kind(0, 6, 50, 0, 1010), 0);
    dueThen("kind", x, false);
    due("barge", x.barge(0, 7, 7, 3), 0);
    dueThen("barge", x, false);
    due("a fault", write(x, 9), -100);
    dueThen("a fault", x, false);
    due("write", write(x, three), 3);
    dueThen("write", x, true);
    due("back", x.back(3), 3);
    dueThen("back", x, true);
    due("back", x.back(2), 3);
    dueThen("back to another", x, true);
    due("burst", cue(x, 0, 0), 10);
    due("fewer", write(x, 2, 1, 1, 0, 0, 0, 0), 1);
    due("as many again", write(x, three), 3);
    dueThen("write", x, true);
  }
}
