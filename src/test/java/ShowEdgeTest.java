// The boundaries that part IV names of THE SHOW, and promises 23 to 26, each on both its sides.
public final class ShowEdgeTest {
  private static final long IAE = Long.MIN_VALUE;
  private static final long ISE = Long.MIN_VALUE + 1;
  private static final int MIN = Integer.MIN_VALUE;
  private static final int MAX = Integer.MAX_VALUE;
  private static int wrong = 0;

  private static void due(String call, long got, long want) {
    if (got != want) {
      wrong++;
      System.out.println(call + " answered " + got + ", due is " + want);
    }
  }

  private static long goes(LightScript x, int c, int what) {
    try {
      return x.goes(c, what);
    } catch (IllegalArgumentException e) {
      return IAE;
    } catch (IllegalStateException e) {
      return ISE;
    }
  }

  private static void row(LightScript x, int d, int... row) {
    x.tape(d, 1, row.length);
    for (int i = 0; i < row.length; i++) {
      if (row[i] != 0) {
        x.put(d, i, row[i]);
      }
    }
  }

  private static int write(LightScript x, int... row) {
    row(x, 0, row);
    return x.write(0);
  }

  /** The one RULE there is then. */
  private static void rule(LightScript x, int... row) {
    x.holdless();
    row(x, 1, row);
    due("hold", x.hold(1), 0);
  }

  private static void dueFates(String name, LightScript x, int... want) {
    for (int c = 0; c < want.length; c++) {
      due(name + ": fate of " + c, x.fate(c), want[c]);
    }
  }

  private static void dueGoes(String name, LightScript x, int c, int kind, int fire, int burst) {
    due(name + ": goes(" + c + ", 0)", goes(x, c, 0), kind);
    due(name + ": goes(" + c + ", 1)", goes(x, c, 1), fire);
    due(name + ": goes(" + c + ", 2)", goes(x, c, 2), burst);
  }

  /** KIND 0 (LIFT 10) lands hot by its barge; barges 0 on water and 1 on land. */
  private static LightScript desk() {
    LightScript x = new LightScript();
    x.kind(0, 10, 10, 0, 4010);
    x.barge(0, 10, 10, 40);
    x.barge(1, 20, 20, 40);
    x.cell(20, 20, 1);
    return x;
  }

  /** One CUE of KIND 0 with its BURST at a TICK from 51 to 2500. */
  private static void one(LightScript x, int s, int tick) {
    due("write", write(x, 8, 50, 2, (tick - 1) / 50, 8, 1, 2, (tick - 1) % 50 + 1, 1, 0, s, 0, 0),
        1);
    due("burst", x.cue(0, 0), tick);
  }

  public static void main(String[] args) {
    fatesOfCues();
    goesRefused();
    goesOfEachFate();
    haltAtItsFire();
    haltFarAndNear();
    fireOfARule();
    misfiresOfARule();
    misfireSeenAtItsTick();
    misfiresWithFateFive();
    lateOnesAreNoMisfires();
    windOfARule();
    bargeOfARule();
    kindOfARule();
    bothOneNot();
    anyRuleHolds();
    ruleAtTheFireAsTold();
    windKnownAtItsFire();
    safeIsEnoughForItsOwn();
    liftNotAboveItsOwn();
    colourOfItsOwn();
    heldByItsBarge();
    safeThereAtItsAngle();
    firstSuchKind();
    burstStays();
    lateBy1To5();
    theFirstThatIsSo();
    manyOfEach();
    orderByFire();
    orderOf120();
    rulesOfTwentyOrders();
    asToldNow();
    System.out.println(wrong == 0 ? "all answers are as due" : wrong + " answers are not as due");
    if (wrong != 0) {
      System.exit(1);
    }
  }

  // "NONE: no such CUE"
  private static void fatesOfCues() {
    LightScript x = desk();
    due("fate, no CUES", x.fate(0), -1);
    write(x, 2, 1, 3, 0, 0, 3, 0);
    for (int c : new int[] {-1, 3, 119, 120, MIN, MAX}) {
      due("fate(" + c + ")", x.fate(c), -1);
    }
    for (int c = 0; c < 3; c++) {
      due("fate(" + c + ")", x.fate(c), 0);
    }
    write(x, 2, 1, 6, 8, 6, 5, 3, 0, 0, 3, 7, 7, 0);
    due("fate(119)", x.fate(119), 0);
    due("fate(120)", x.fate(120), -1);
    write(x, 0);
    due("fate, no CUES", x.fate(0), -1);
  }

  // "IllegalArgumentException: no such CUE, what; IllegalStateException: its FATE is not 0 or 1."
  private static void goesRefused() {
    LightScript x = desk();
    due("goes, no CUES", goes(x, 0, 0), IAE);
    write(x, 2, 1, 3, 0, 0, 3, 1, 0, -1, 0, 0);
    for (int c : new int[] {-1, 4, 120, MIN, MAX}) {
      for (int what = 0; what <= 2; what++) {
        due("goes(" + c + ", " + what + ")", goes(x, c, what), IAE);
      }
    }
    for (int what : new int[] {-1, 3, 4, MIN, MAX}) {
      due("goes(0, " + what + ")", goes(x, 0, what), IAE);
      due("goes(2, " + what + ")", goes(x, 2, what), IAE);
      due("goes(4, " + what + ")", goes(x, 4, what), IAE);
      due("of an OPEN one IAE goes ahead of ISE: goes(3, " + what + ")", goes(x, 3, what), IAE);
    }
    for (int what = 0; what <= 2; what++) {
      due("of an OPEN one: goes(3, " + what + ")", goes(x, 3, what), ISE);
    }
    dueGoes("the first", x, 0, 0, 0, 10);
    dueGoes("the last", x, 2, 0, 0, 10);
  }

  private static void goesOfEachFate() {
    LightScript x = desk();
    x.kind(1, 10, 50, 0, 1020);
    x.kind(2, 10, 10, 0, 4020);
    // FATES 0, 1, 2, 3, 5, 6 and, its FIRE behind, 4.
    write(x, 2, 2, 1, 0, 0, 0, 1, 2, 1, 0, 1, 0, 1, 0, 1, 1, 0, 4, 1, 0, 0, 0, 1, 0, -1, 0,
        2, 1, 1, 0, 0, 0, 0);
    x.fault(4, 6);
    x.barge(2, 10, 11, 1);
    x.place(3, 2);
    rule(x, 4, 2, 0);
    x.halt(20);
    int[] fates = {0, 1, 2, 3, 5, 6, 4};
    dueFates("each", x, fates);
    for (int c = 0; c < 7; c++) {
      for (int what = 0; what <= 2; what++) {
        boolean goes = fates[c] <= 1;
        int[] want = {c, 10, 20};
        due("goes(" + c + ", " + what + ") of FATE " + fates[c], goes(x, c, what),
            goes ? want[what] : ISE);
      }
      due("goes(" + c + ", 3)", goes(x, c, 3), IAE);
    }
    for (int fate = 0; fate < 7; fate++) {
      due("many(" + fate + ")", x.many(fate), 1);
    }
  }

  // "its FIRE is the HALT's TICK or later"
  private static void haltAtItsFire() {
    for (int tick = 98; tick <= 102; tick++) {
      LightScript x = desk();
      one(x, 0, 110);
      due("fire", x.cue(0, 4), 100);
      x.halt(tick);
      due("HALT at " + tick + ", FIRE at 100", x.fate(0), tick <= 100 ? 4 : 0);
      due("HALT at " + tick, goes(x, 0, 1), tick <= 100 ? ISE : 100);
    }
  }

  private static void haltFarAndNear() {
    LightScript x = desk();
    x.kind(0, 1, 10, 0, 4010);
    x.kind(1, 10, 50, 0, 1010);
    // FIRE 0; and BURST 20000, FIRE 19999.
    due("write", write(x, 2, 1, 1, 1, 0, 0, 8, 10, 2, 49, 8, 50, 2, 40, 6, 7, 2, 50, 7, 1, 0, 0, 0,
        0), 2);
    due("burst", x.cue(1, 0), 20000);
    int[][] ticks = {{0, 4, 4}, {1, 0, 4}, {19998, 0, 4}, {19999, 0, 4}, {20000, 0, 0},
        {-1, 0, 0}};
    for (int[] t : ticks) {
      x.halt(t[0]);
      dueFates("HALT at " + t[0], x, t[1], t[2]);
    }
  }

  // "1 v: the CUE's FIRE is 10 v or more"
  private static void fireOfARule() {
    for (int v : new int[] {5, 6, 100, 126, 127}) {
      for (int off = -1; off <= 1; off++) {
        LightScript x = desk();
        one(x, 0, 10 * v + off + 10);
        rule(x, 1, v, 0);
        due("FIRE " + x.cue(0, 4) + " by 1 " + v, x.fate(0), off >= 0 ? 3 : 0);
      }
    }
    LightScript x = desk();
    write(x, 2, 1, 1, 0, 0, 0, 0);
    rule(x, 1, 0, 0);
    due("FIRE 0 by 1 0", x.fate(0), 3);
    rule(x, 1, 1, 0);
    due("FIRE 0 by 1 1", x.fate(0), 0);
    rule(x, 1, 0, 8, 0);
    due("FIRE 0 by 1 0 8", x.fate(0), 0);
  }

  // "2 n: n or more MISFIRES were seen"
  private static void misfiresOfARule() {
    for (int misfires = 0; misfires <= 5; misfires++) {
      for (int n = 0; n <= 6; n++) {
        LightScript x = desk();
        // Five with FIRE 0 and BURST 10; one with FIRE 100, of KIND 1.
        x.kind(1, 10, 50, 0, 1020);
        write(x, 2, 1, 3, 0, 0, 5, 2, 10, 1, 1, 0, 0, 0);
        for (int c = 0; c < misfires; c++) {
          x.fault(c, 6);
        }
        rule(x, 2, n, 5, 1, 6, 0);
        due(misfires + " MISFIRES by 2 " + n, x.fate(5), misfires >= n ? 3 : 0);
      }
    }
    LightScript x = desk();
    x.kind(1, 10, 50, 0, 1020);
    due("write", write(x, 2, 1, 6, 7, 6, 8, 3, 0, 0, 2, 7, 7, 3, 0, 0, 5, 3, 0, 0, 2, 2, 10,
        1, 1, 0, 0, 0), 120);
    for (int c = 0; c < 119; c++) {
      x.fault(c, 6);
    }
    int[][] numbers = {{118, 3}, {119, 3}, {120, 0}, {127, 0}};
    for (int[] n : numbers) {
      rule(x, 2, n[0], 0);
      due("119 MISFIRES by 2 " + n[0], x.fate(119), n[1]);
    }
  }

  // "at a FIRE those of that TICK or ahead of it were seen"
  private static void misfireSeenAtItsTick() {
    for (int off = -2; off <= 2; off++) {
      LightScript x = desk();
      x.kind(1, 20, 50, 0, 1020);
      // A dud with its BURST at 100; the other one's FIRE is at 100 and off.
      write(x, 2, 10, 1, 0, 0, 0, 8, 20 + off, 2, 1, 1, 1, 0, 0, 0);
      due("fire", x.cue(1, 4), 100 + off);
      x.fault(0, 6);
      rule(x, 2, 1, 0);
      due("a MISFIRE at 100, a FIRE at " + x.cue(1, 4), x.fate(1), off >= 0 ? 3 : 0);
      due("the dud", x.fate(0), 5);
      x.fault(0, 0);
      due("no dud, a FIRE at " + x.cue(1, 4), x.fate(1), 0);
      x.fault(0, 6);
      x.stretch(100, 1, 1);
      x.kind(1, 20 + off, 50, 0, 1020);
      due("a MISFIRE at 100, a FIRE at 100", x.fate(1), 3);
      x.kind(1, 21 + off, 50, 0, 1020);
      due("a MISFIRE at 100, a FIRE at 99", x.fate(1), 0);
    }
    // CUES of KIND 1 at 100 and 150 (FIRES 90 and 140), a dud at 100 told behind them.
    LightScript x = desk();
    x.kind(1, 10, 50, 0, 1020);
    write(x, 2, 10, 5, 1, 0, 0, 5, 1, 0, 0, 0, 0);
    x.fault(2, 6);
    rule(x, 2, 1, 0);
    dueFates("a dud of a greater number", x, 0, 3, 5);
  }

  // "a CUE with FATE 5": no other is a MISFIRE.
  private static void misfiresWithFateFive() {
    LightScript x = desk();
    x.kind(1, 10, 50, 0, 1020);
    write(x, 2, 1, 1, 0, 0, 0, 2, 10, 1, 1, 0, 0, 0);
    x.fault(0, 6);
    rule(x, 2, 1, 0);
    dueFates("a dud that MISFIRED", x, 5, 3);
    x.place(0, -1);
    dueFates("a dud that is OPEN", x, 6, 0);
    x.place(0, 1);
    dueFates("a dud HELD by wind", x, 2, 0);
    x.kind(2, 10, 50, 0, 1010);
    dueFates("a dud that would be REPLACED", x, 5, 3);
    x.place(0, 0);
    rule(x, 2, 1, 5, 0, 7, 0);
    dueFates("a dud HELD by a RULE", x, 3, 0);
    rule(x, 2, 1, 0);
    x.halt(0);
    dueFates("a dud that is HALTED", x, 4, 4);
    x.halt(1);
    dueFates("one that is HALTED, one that MISFIRED", x, 5, 4);
    x.halt(-1);
    x.fault(0, 5);
    dueFates("a late one", x, 0, 0);
  }

  private static void lateOnesAreNoMisfires() {
    for (int what = 0; what <= 6; what++) {
      LightScript x = desk();
      x.kind(1, 10, 50, 0, 1020);
      write(x, 2, 1, 1, 0, 0, 0, 2, 10, 1, 1, 0, 0, 0);
      x.fault(0, what);
      rule(x, 2, 1, 0);
      dueFates("FAULT " + what, x, what == 6 ? 5 : 0, what == 6 ? 3 : 0);
      if (what == 6) {
        due("goes of a dud", goes(x, 0, 2), ISE);
      } else {
        dueGoes("FAULT " + what, x, 0, 0, 0, 10 + what);
      }
    }
  }

  // "3 w: the WIND KNOWN is w"
  private static void windOfARule() {
    for (int known = 0; known <= 3; known++) {
      for (int w = 0; w <= 4; w++) {
        LightScript x = desk();
        one(x, 0, 110);
        x.meter(known, 0, 100);
        x.meter(3 - known, 0, 101);
        rule(x, 3, w, 0);
        due("WIND " + known + " by 3 " + w, x.fate(0), w == known ? 3 : 0);
      }
    }
  }

  // "4 s: the CUE's BARGE is s"
  private static void bargeOfARule() {
    for (int s = 0; s < 6; s++) {
      for (int number = 0; number <= 6; number++) {
        LightScript x = desk();
        x.barge(s, 5, 5, 1);
        one(x, s, 110);
        rule(x, 4, number, 0);
        due("BARGE " + s + " by 4 " + number, x.fate(0), number == s ? 3 : 0);
      }
    }
  }

  // "5 k: its KIND is k"
  private static void kindOfARule() {
    for (int k : new int[] {0, 1, 11}) {
      for (int number = 0; number <= 12; number++) {
        LightScript x = desk();
        x.kind(k, 10, 10, 0, 4010);
        due("write", write(x, 2, 11, 1, k, 0, 0, 0), 1);
        rule(x, 5, number, 0);
        due("KIND " + k + " by 5 " + number, x.fate(0), number == k ? 3 : 0);
      }
    }
  }

  // "6: both of the last two. 7: one of them at least. 8: not the last one."
  private static void bothOneNot() {
    for (int a = 0; a <= 1; a++) {
      for (int b = 0; b <= 1; b++) {
        LightScript x = desk();
        one(x, 0, 110);
        // 4 0 is so, 4 1 isn't.
        int p = 1 - a;
        int q = 1 - b;
        rule(x, 4, p, 4, q, 6, 0);
        due(a + " and " + b, x.fate(0), a == 1 && b == 1 ? 3 : 0);
        rule(x, 4, p, 4, q, 7, 0);
        due(a + " or " + b, x.fate(0), a == 1 || b == 1 ? 3 : 0);
        rule(x, 4, p, 4, q, 8, 6, 0);
        due(a + " and not " + b, x.fate(0), a == 1 && b == 0 ? 3 : 0);
        rule(x, 4, p, 4, q, 8, 7, 0);
        due(a + " or not " + b, x.fate(0), a == 1 || b == 0 ? 3 : 0);
        rule(x, 4, p, 8, 4, q, 6, 0);
        due("not " + a + " and " + b, x.fate(0), a == 0 && b == 1 ? 3 : 0);
        rule(x, 4, p, 8, 4, q, 7, 0);
        due("not " + a + " or " + b, x.fate(0), a == 0 || b == 1 ? 3 : 0);
        rule(x, 4, p, 4, q, 6, 8, 0);
        due("not (" + a + " and " + b + ")", x.fate(0), a == 1 && b == 1 ? 0 : 3);
        rule(x, 4, p, 4, q, 7, 8, 0);
        due("not (" + a + " or " + b + ")", x.fate(0), a == 1 || b == 1 ? 0 : 3);
        for (int c = 0; c <= 1; c++) {
          rule(x, 4, p, 4, q, 4, 1 - c, 6, 7, 0);
          due(a + " or (" + b + " and " + c + ")", x.fate(0),
              a == 1 || b == 1 && c == 1 ? 3 : 0);
          rule(x, 4, p, 4, q, 4, 1 - c, 7, 6, 0);
          due(a + " and (" + b + " or " + c + ")", x.fate(0),
              a == 1 && (b == 1 || c == 1) ? 3 : 0);
          rule(x, 4, p, 4, q, 6, 4, 1 - c, 7, 0);
          due("(" + a + " and " + b + ") or " + c, x.fate(0),
              a == 1 && b == 1 || c == 1 ? 3 : 0);
        }
      }
    }
    // Of eight on the stack each counts.
    for (int off = 0; off < 8; off++) {
      LightScript x = desk();
      one(x, 0, 110);
      int[] row = new int[24];
      for (int i = 0; i < 8; i++) {
        row[2 * i] = 4;
        row[2 * i + 1] = i == off ? 1 : 0;
        row[16 + i] = i == 7 ? 0 : 6;
      }
      rule(x, row);
      due("all of eight but the " + off, x.fate(0), 0);
      row[2 * off + 1] = 0;
      rule(x, row);
      due("all of eight", x.fate(0), 3);
    }
  }

  private static void anyRuleHolds() {
    for (int which = -1; which < 8; which++) {
      LightScript x = desk();
      one(x, 0, 110);
      for (int r = 0; r < 8; r++) {
        row(x, 1, 4, r == which ? 0 : 1, 0);
        due("hold", x.hold(1), r);
      }
      due("HELD by RULE " + which, x.fate(0), which >= 0 ? 3 : 0);
      x.holdless();
      due("no RULES", x.fate(0), 0);
    }
  }

  // "one holds at its FIRE (as told KIND)": not at the FIRE of the KIND that would replace it.
  private static void ruleAtTheFireAsTold() {
    LightScript x = desk();
    x.kind(1, 5, 50, 0, 1010);
    one(x, 1, 110);
    due("REPLACED", x.fate(0), 1);
    dueGoes("REPLACED", x, 0, 1, 105, 110);
    rule(x, 1, 10, 8, 0);
    due("its FIRE is 100", x.fate(0), 1);
    rule(x, 1, 10, 0);
    due("its FIRE is 100", x.fate(0), 3);
    x.holdless();
    x.halt(101);
    due("no HALT at its FIRE", x.fate(0), 1);
    x.halt(100);
    due("a HALT at its FIRE", x.fate(0), 4);
    x.halt(-1);
    rule(x, 5, 1, 0);
    due("its KIND is as told", x.fate(0), 1);
    rule(x, 5, 0, 0);
    due("its KIND is as told", x.fate(0), 3);
  }

  // "it isn't SAFE in the WIND KNOWN at its FIRE"
  private static void windKnownAtItsFire() {
    for (int known = 98; known <= 102; known++) {
      LightScript x = desk();
      one(x, 1, 110);
      x.wind(2, 0, 50, 0);
      x.meter(2, 50, known);
      due("SAFE in a WIND KNOWN at " + known, x.fate(0), known <= 100 ? 0 : 2);
      LightScript y = desk();
      one(y, 0, 110);
      y.cell(11, 10, 1);
      y.wind(2, 0, 50, 0);
      y.meter(2, 50, known);
      due("not SAFE in a WIND KNOWN at " + known, y.fate(0), known <= 100 ? 2 : 0);
    }
    // The KIND that would replace it goes by the WIND at that FIRE too.
    for (int known = 99; known <= 106; known++) {
      LightScript x = desk();
      x.kind(1, 5, 20, 0, 8010);
      x.cell(22, 20, 1);
      one(x, 1, 110);
      x.wind(2, 0, 25, 0);
      x.meter(2, 0, 0);
      due("REPLACED in WIND 2", x.fate(0), 0);
      x.meter(0, 1, known);
      due("HELD in WIND 0, known at " + known, x.fate(0), known <= 100 ? 2 : 0);
    }
  }

  // Its own KIND need not be HELD by its BARGE.
  private static void safeIsEnoughForItsOwn() {
    LightScript x = desk();
    one(x, 0, 110);
    x.kind(0, 10, 40, 0, 16010);
    x.cell(9, 9, 2);
    due("it may not be HELD", x.may(0, 0), 0);
    due("it is SAFE", x.safe(0, 0, 0, 0), 1);
    due("FIRED", x.fate(0), 0);
    dueGoes("FIRED", x, 0, 0, 100, 110);
  }

  // "with a LIFT not above its own"
  private static void liftNotAboveItsOwn() {
    for (int lift : new int[] {1, 9, 10, 11, 60}) {
      LightScript x = desk();
      x.kind(7, lift, 50, 0, 1010);
      one(x, 1, 110);
      due("LIFT " + lift, x.fate(0), lift <= 10 ? 1 : 2);
      if (lift <= 10) {
        dueGoes("LIFT " + lift, x, 0, 7, 110 - lift, 110);
      } else {
        due("LIFT " + lift, goes(x, 0, 0), ISE);
      }
    }
  }

  // "no KIND of its COLOUR"
  private static void colourOfItsOwn() {
    for (int own = 1; own <= 9; own++) {
      for (int other = 1; other <= 9; other++) {
        LightScript x = desk();
        x.kind(0, 10, 10, 0, 4000 + 10 * own + own % 6);
        x.kind(4, 10, 50, 0, 1000 + 10 * other + other % 6);
        one(x, 1, 110);
        due("COLOURS " + own + ", " + other, x.fate(0), own == other ? 1 : 2);
      }
    }
  }

  // "is HELD by its BARGE"
  private static void heldByItsBarge() {
    for (int height = 79; height <= 80; height++) {
      LightScript x = desk();
      x.kind(1, 10, height, 0, 1010);
      x.cell(22, 18, 2);
      one(x, 1, 110);
      due("HEIGHT " + height + ", a crowd 400 away", x.fate(0), height == 79 ? 1 : 2);
      x.cell(22, 18, 1);
      due("HEIGHT " + height + ", land there", x.fate(0), 1);
    }
    LightScript x = desk();
    x.kind(1, 10, 50, 0, 1010);
    x.cell(10, 11, 2);
    one(x, 1, 110);
    due("a crowd by another barge", x.fate(0), 1);
  }

  // "and SAFE there at its ANGLE"
  private static void safeThereAtItsAngle() {
    for (int angle = -4; angle <= 4; angle++) {
      LightScript x = desk();
      // KIND 1 lands 50 for each ANGLE away: from 2 on in cell 21, from -3 on in cell 19.
      x.kind(1, 10, 50, 0, 20010);
      write(x, 2, 11, 1, 0, 1, angle, 0);
      x.kind(0, 10, 10, 0, 4010);
      boolean away = angle >= 2 || angle <= -3;
      due("REPLACED at " + angle, x.fate(0), away ? 1 : 2);
      x.cell(21, 20, 1);
      due("REPLACED at " + angle + ", land in 21", x.fate(0), angle <= -3 ? 1 : 2);
    }
  }

  // "REPLACED by the first such KIND"
  private static void firstSuchKind() {
    LightScript x = desk();
    one(x, 1, 110);
    for (int k = 11; k >= 1; k--) {
      x.kind(k, 10 - k % 3, 50, 0, 1010);
      dueGoes("REPLACED", x, 0, k, 100 + k % 3, 110);
    }
    // Each that isn't such a one is passed over.
    x.kind(1, 11, 50, 0, 1010);
    dueGoes("its LIFT is above", x, 0, 2, 102, 110);
    x.kind(2, 10, 50, 0, 1020);
    dueGoes("it is of another COLOUR", x, 0, 3, 100, 110);
    x.kind(3, 10, 10, 0, 4010);
    dueGoes("it isn't SAFE", x, 0, 4, 101, 110);
    x.cell(22, 20, 2);
    x.kind(4, 10, 80, 0, 1010);
    dueGoes("it isn't HELD", x, 0, 5, 102, 110);
    // One ahead of its own number may be the first too.
    write(x, 2, 11, 1, 8, 1, 0, 0);
    x.kind(8, 10, 10, 0, 4010);
    due("REPLACED by one ahead", goes(x, 0, 0), 5);
    due("REPLACED", x.fate(0), 1);
  }

  // "(it FIRES later, so that its BURST stays)"
  private static void burstStays() {
    for (int lift = 1; lift <= 10; lift++) {
      LightScript x = desk();
      x.kind(1, lift, 50, 0, 1010);
      one(x, 1, 110);
      dueGoes("LIFT " + lift, x, 0, 1, 110 - lift, 110);
      due("the CUE is as it was", x.cue(0, 1), 0);
      due("the CUE is as it was", x.cue(0, 4), 100);
      due("the CUE is as it was", x.cue(0, 0), 110);
    }
  }

  // "Of 0, 1 the BURST comes so many TICKS late as told."
  private static void lateBy1To5() {
    for (int late = 0; late <= 5; late++) {
      LightScript x = desk();
      x.kind(1, 4, 50, 0, 1010);
      one(x, 0, 110);
      x.fault(0, late);
      dueGoes("FIRED, late by " + late, x, 0, 0, 100, 110 + late);
      x.place(0, 1);
      dueGoes("REPLACED, late by " + late, x, 0, 1, 106, 110 + late);
      due("burst", x.cue(0, 0), 110);
    }
  }

  // "the first that is so": 6, 4, 3, 2, 5, 1, 0
  private static void theFirstThatIsSo() {
    for (int bits = 0; bits < 64; bits++) {
      LightScript x = desk();
      boolean open = (bits & 1) != 0;
      boolean halted = (bits & 2) != 0;
      boolean ruled = (bits & 4) != 0;
      boolean unsafe = (bits & 8) != 0;
      boolean dud = (bits & 16) != 0;
      boolean other = (bits & 32) != 0;
      one(x, unsafe ? 1 : 0, 110);
      if (open) {
        x.place(0, -1);
      }
      if (halted) {
        x.halt(100);
      }
      if (ruled) {
        rule(x, 1, 10, 0);
      }
      if (dud) {
        x.fault(0, 6);
      }
      if (other) {
        x.kind(1, 10, 50, 0, 1010);
      }
      int fate = open ? 6 : halted ? 4 : ruled ? 3 : unsafe && !other ? 2 : dud ? 5
          : unsafe ? 1 : 0;
      due("fate of " + bits, x.fate(0), fate);
      for (int f = 0; f < 7; f++) {
        due("many(" + f + ") of " + bits, x.many(f), f == fate ? 1 : 0);
      }
      due("dud of " + bits, x.dud(0), fate == 0 || fate == 1 || fate == 5 ? 2 : -2);
      due("duds of " + bits, x.duds(), fate == 0 || fate == 1 || fate == 5 ? 1 : 0);
    }
  }

  // "How many CUES have a FATE (0 .. 6)", "NONE: no such one."
  private static void manyOfEach() {
    LightScript x = desk();
    for (int fate : new int[] {-1, 7, MIN, MAX}) {
      due("many(" + fate + ")", x.many(fate), -1);
    }
    for (int fate = 0; fate <= 6; fate++) {
      due("many(" + fate + "), no CUES", x.many(fate), 0);
    }
    write(x, 2, 1, 6, 8, 6, 5, 3, 0, 0, 3, 7, 7, 0);
    for (int fate = -1; fate <= 7; fate++) {
      due("many(" + fate + ") of 120", x.many(fate), fate == 0 ? 120 : fate < 0 || fate > 6 ? -1 : 0);
    }
    x.place(119, -1);
    x.place(0, 1);
    due("many(6)", x.many(6), 1);
    due("many(2)", x.many(2), 1);
    due("many(0)", x.many(0), 118);
  }

  // "the CUES by FIRE (like ones by number)", "NONE: there is none"
  private static void orderByFire() {
    LightScript x = desk();
    for (int i : new int[] {-1, 0, 1, 119, 120, MIN, MAX}) {
      due("order(" + i + "), no CUES", x.order(i), -1);
    }
    x.kind(1, 20, 50, 0, 1010);
    // KIND 0 twice at 29 and once at 30, an OPEN one at 31; KIND 1 at 40.
    due("write", write(x, 8, 29, 2, 1, 5, 0, 0, 0, 0, 8, 1, 2, 1, 1, 0, 0, 0, 2, 1, 1, 0, -1, 0,
        2, 9, 1, 1, 1, 0, 0), 5);
    // FIRES 19, 19, 20, 21, 20.
    int[] want = {0, 1, 2, 4, 3};
    for (int i = 0; i < 5; i++) {
      due("order(" + i + ")", x.order(i), want[i]);
    }
    due("order(5)", x.order(5), -1);
    due("order(-1)", x.order(-1), -1);
    x.kind(1, 21, 50, 0, 1010);
    // FIRES 19, 19, 20, 21, 19.
    int[] then = {0, 1, 4, 2, 3};
    for (int i = 0; i < 5; i++) {
      due("order(" + i + ") then", x.order(i), then[i]);
    }
    x.kind(1, 22, 50, 0, 1010);
    due("order(0), one TICK ahead", x.order(0), 4);
    due("order(1), one TICK ahead", x.order(1), 0);
    x.halt(0);
    due("order(0) of HALTED ones", x.order(0), 4);
    x.kind(1, 19, 50, 0, 1010);
    due("order(4), like the fourth", x.order(3), 3);
    due("order(4), like the fourth", x.order(4), 4);
  }

  private static void orderOf120() {
    LightScript x = desk();
    x.kind(1, 60, 50, 0, 1010);
    // By turns KINDS 0 and 1 at 10, 20, ... behind 60: FIRES 10 of LIFT 10, 60 of LIFT 60.
    due("write", write(x, 2, 6, 6, 6, 6, 5, 1, 0, 0, 0, 1, 1, 0, 0, 2, 1, 1, 0, -1, 0, 1, 1, 0, 0,
        7, 7, 0), 120);
    int last = -1;
    boolean[] met = new boolean[120];
    for (int i = 0; i < 120; i++) {
      int c = x.order(i);
      due("order(" + i + ") is a CUE met once", c >= 0 && c < 120 && !met[c] ? 1 : 0, 1);
      met[c] = true;
      if (last >= 0) {
        int before = x.cue(last, 4);
        int fire = x.cue(c, 4);
        due("order(" + i + ")", before < fire || before == fire && last < c ? 1 : 0, 1);
      }
      last = c;
    }
    due("order(120)", x.order(120), -1);
  }

  private static void rulesOfTwentyOrders() {
    for (int n = 17; n <= 20; n++) {
      LightScript x = desk();
      one(x, 0, 110);
      int[] row = new int[n + 2];
      row[0] = 4;
      for (int i = 2; i <= n; i++) {
        row[i] = 8;
      }
      // BARGE 0, turned n - 1 times; so in the first place and in the last.
      for (int r = 0; r < 8; r++) {
        row[1] = 0;
        rule(x, row);
        due(n + " ORDERS", x.fate(0), n % 2 == 1 ? 3 : 0);
        row[1] = 1;
        rule(x, row);
        due(n + " ORDERS", x.fate(0), n % 2 == 1 ? 0 : 3);
      }
      x.holdless();
      row(x, 1, 4, 1, 0);
      for (int r = 0; r < 7; r++) {
        due("hold", x.hold(1), r);
      }
      row[1] = n % 2 == 1 ? 0 : 1;
      row(x, 1, row);
      due("hold", x.hold(1), 7);
      due(n + " ORDERS of the eighth RULE", x.fate(0), 3);
    }
  }

  private static void dueNow(String name, LightScript x, int fate) {
    due(name + ": many(" + fate + ")", x.many(fate), 1);
    due(name + ": fate", x.fate(0), fate);
    due(name + ": goes", goes(x, 0, 2), fate <= 1 ? x.cue(0, 0) : ISE);
    due(name + ": fate", x.fate(0), fate);
    due(name + ": dud", x.dud(0), fate == 0 || fate == 1 || fate == 5 ? 2 : -2);
  }

  // THE SHOW is asked again after each thing that is told: it goes by what is told now.
  private static void asToldNow() {
    LightScript x = desk();
    one(x, 0, 110);
    x.keep(3);
    dueNow("written", x, 0);
    x.cell(10, 10, 1);
    dueNow("cell", x, 2);
    x.kind(1, 10, 50, 0, 1010);
    dueNow("another kind", x, 1);
    x.kind(1, 10, 50, 0, 1020);
    dueNow("another kind anew", x, 2);
    x.kind(0, 10, 10, 0, 3010);
    dueNow("its kind anew", x, 0);
    x.kind(0, 10, 10, 0, 4010);
    dueNow("its kind anew", x, 2);
    x.barge(0, 10, 11, 40);
    dueNow("its barge anew", x, 0);
    x.wind(0, 0, 0, -50);
    dueNow("the wind", x, 2);
    x.meter(1, 0, 100);
    dueNow("a reading", x, 0);
    x.wind(1, 0, 0, -50);
    dueNow("that wind", x, 2);
    x.place(0, -1);
    dueNow("place", x, 6);
    x.barge(0, 10, 10, 40);
    due("lay", x.lay(1), 1);
    dueNow("lay", x, 0);
    x.fault(0, 6);
    dueNow("fault", x, 5);
    rule(x, 1, 10, 0);
    dueNow("hold", x, 3);
    x.halt(100);
    dueNow("halt", x, 4);
    due("stretch", x.stretch(109, 1, 2), 1);
    dueNow("stretch", x, 5);
    x.halt(99);
    dueNow("halt", x, 4);
    x.halt(-1);
    dueNow("halt", x, 5);
    x.fault(0, 0);
    due("stretch", x.stretch(108, 2, 1), 1);
    dueNow("stretch", x, 3);
    x.holdless();
    dueNow("holdless", x, 0);
    x.fault(0, 6);
    due("back", x.back(3), 1);
    dueNow("back", x, 0);
    x.fault(0, 6);
    one(x, 0, 110);
    dueNow("write", x, 0);
    x.begin();
    due("begin", x.many(0), 0);
    due("begin", x.fate(0), -1);
  }
}
