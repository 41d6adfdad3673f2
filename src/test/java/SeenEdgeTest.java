// The boundaries that part V and promises 27 to 31 name, each on both its sides.
public final class SeenEdgeTest {
  private static final int MIN = Integer.MIN_VALUE;
  private static final int MAX = Integer.MAX_VALUE;
  private static int wrong = 0;

  private static void due(String call, long got, long want) {
    if (got != want) {
      wrong++;
      System.out.println(call + " answered " + got + ", due is " + want);
    }
  }

  private static void row(LightScript x, int d, int... row) {
    x.tape(d, 1, row.length);
    for (int i = 0; i < row.length; i++) {
      if (row[i] != 0) {
        x.put(d, i, row[i]);
      }
    }
  }

  private static int write(LightScript x, int... row) {
    row(x, 0, row);
    return x.write(0);
  }

  private static void dueDuds(String name, LightScript x, int duds, int strange, int... want) {
    due(name + ": duds", x.duds(), duds);
    due(name + ": strange", x.strange(), strange);
    for (int c = 0; c < want.length; c++) {
      due(name + ": dud(" + c + ")", x.dud(c), want[c]);
    }
  }

  /** KIND 0 of COLOUR 1 is LATE 2; barges 0 on water and 1 on land. */
  private static LightScript desk() {
    LightScript x = new LightScript();
    x.kind(0, 5, 50, 0, 1012);
    x.barge(0, 10, 10, 40);
    x.barge(1, 20, 20, 40);
    x.cell(20, 20, 1);
    return x;
  }

  private static void sees(LightScript x, int colour, int... ticks) {
    x.unseen();
    for (int i = 0; i < ticks.length; i++) {
      due("seen(" + ticks[i] + ")", x.seen(ticks[i], colour), i + 1);
    }
  }

  public static void main(String[] args) {
    seenTicks();
    seenColours();
    sixtySeen();
    unseenCounts();
    lateApartOrLess();
    lateAtTheEnds();
    coloursTheSame();
    fatesThatCount();
    ticksAsWrittenOrStretched();
    kindItHas();
    dudOfNoCue();
    surelyMaybeNot();
    oneSeenEach();
    noneToTwo();
    aGreatestHasTheMost();
    maybeByAChain();
    toldInAnyOrder();
    theLastOf120();
    askedAtAnyTime();
    noCues();
    goneWithOtherCues();
    System.out.println(wrong == 0 ? "all answers are as due" : wrong + " answers are not as due");
    if (wrong != 0) {
      System.exit(1);
    }
  }

  // "NONE: not 0 .. 20010"
  private static void seenTicks() {
    LightScript x = desk();
    for (int tick : new int[] {-1, 20011, MIN, MAX}) {
      due("seen(" + tick + ")", x.seen(tick, 1), -1);
      due("count(6)", x.count(6), 0);
    }
    int n = 0;
    for (int tick : new int[] {0, 1, 20000, 20001, 20009, 20010}) {
      due("seen(" + tick + ")", x.seen(tick, 1), ++n);
      due("count(6)", x.count(6), n);
    }
    due("strange", x.strange(), 6);
  }

  // "no such COLOUR"
  private static void seenColours() {
    LightScript x = desk();
    for (int colour : new int[] {-1, 0, 10, MIN, MAX}) {
      due("seen of " + colour, x.seen(5, colour), -1);
    }
    due("count(6)", x.count(6), 0);
    for (int colour = 1; colour <= 9; colour++) {
      due("seen of " + colour, x.seen(5, colour), colour);
    }
    LightScript y = new LightScript();
    due("seen of a COLOUR of no KIND", y.seen(5, 9), 1);
  }

  // "up to 60 BURSTS told", "FULL: 60"
  private static void sixtySeen() {
    LightScript x = desk();
    for (int n = 1; n <= 60; n++) {
      due("seen", x.seen(n, 1), n);
    }
    due("the 61st", x.seen(61, 1), -2);
    due("the 61st", x.seen(0, 9), -2);
    due("NONE goes ahead of FULL", x.seen(-1, 1), -1);
    due("NONE goes ahead of FULL", x.seen(20011, 1), -1);
    due("NONE goes ahead of FULL", x.seen(5, 0), -1);
    due("NONE goes ahead of FULL", x.seen(5, 10), -1);
    due("count(6)", x.count(6), 60);
    due("strange", x.strange(), 60);
    // The last that was taken counts, the one refused doesn't.
    write(x, 8, 30, 2, 2, 1, 0, 0, 0, 0);
    due("count(6)", x.count(6), 0);
    for (int n = 1; n <= 59; n++) {
      x.seen(20, 9);
    }
    due("the 60th", x.seen(60, 1), 60);
    due("the 61st", x.seen(61, 1), -2);
    dueDuds("sixty", x, 0, 59, 0);
    due("unseen", x.unseen(), 60);
    due("seen", x.seen(61, 1), 1);
  }

  private static void unseenCounts() {
    LightScript x = desk();
    for (int n : new int[] {0, 1, 2, 60, 0}) {
      for (int i = 0; i < n; i++) {
        x.seen(i, 1);
      }
      due("unseen", x.unseen(), n);
      due("count(6)", x.count(6), 0);
      due("strange", x.strange(), 0);
    }
  }

  // "their TICKS ... are LATE (of the KIND it has) apart or less"
  private static void lateApartOrLess() {
    for (int late = 0; late <= 5; late++) {
      LightScript x = desk();
      x.kind(0, 5, 50, 0, 1010 + late);
      write(x, 2, 10, 1, 0, 0, 0, 0);
      for (int off = -7; off <= 7; off++) {
        sees(x, 1, 100 + off);
        boolean near = Math.abs(off) <= late;
        dueDuds("LATE " + late + ", seen " + off + " off", x, near ? 0 : 1, near ? 0 : 1,
            near ? 0 : 2);
      }
    }
  }

  private static void lateAtTheEnds() {
    LightScript x = desk();
    x.kind(0, 1, 50, 0, 1015);
    write(x, 8, 3, 2, 1, 1, 0, 0, 0, 8, 47, 2, 1, 8, 50, 2, 49, 6, 7, 2, 50, 7, 1, 0, 0, 0, 0);
    due("burst", x.cue(0, 0), 3);
    due("burst", x.cue(1, 0), 20000);
    sees(x, 1, 0, 20005);
    dueDuds("at the ends", x, 0, 0, 0, 0);
    sees(x, 1, 9, 20006);
    dueDuds("beyond the ends", x, 2, 2, 2, 2);
    sees(x, 1, 8, 19995);
    dueDuds("at the other ends", x, 0, 0, 0, 0);
    sees(x, 1, 20010, 19994);
    dueDuds("beyond the ends", x, 2, 2, 2, 2);
  }

  // "if the COLOURS are the same"
  private static void coloursTheSame() {
    for (int own = 1; own <= 9; own++) {
      LightScript x = desk();
      x.kind(0, 5, 50, 0, 1005 + 10 * own);
      write(x, 2, 10, 1, 0, 0, 0, 0);
      for (int colour = 1; colour <= 9; colour++) {
        x.unseen();
        x.seen(100, colour);
        dueDuds("COLOUR " + own + ", seen " + colour, x, own == colour ? 0 : 1,
            own == colour ? 0 : 1, own == colour ? 0 : 2);
      }
    }
  }

  // "A CUE with FATE 0, 1 or 5", "-2: its FATE isn't 0, 1 or 5"
  private static void fatesThatCount() {
    for (int seen = 0; seen <= 1; seen++) {
      for (int fate = 0; fate <= 6; fate++) {
        LightScript x = desk();
        x.kind(1, 5, 10, 0, 4010);
        x.kind(2, 5, 10, 0, 4030);
        int kind = fate == 1 ? 1 : fate == 2 ? 2 : 0;
        write(x, 2, 10, 1, kind, kind == 0 ? 0 : 1, 0, 0);
        if (fate == 3) {
          row(x, 1, 1, 0, 0);
          x.hold(1);
        }
        x.halt(fate == 4 ? 95 : -1);
        x.fault(0, fate == 5 ? 6 : 0);
        if (fate == 6) {
          x.place(0, -1);
        }
        due("fate", x.fate(0), fate);
        if (seen == 1) {
          x.seen(100, fate == 2 ? 3 : 1);
        }
        boolean counts = fate == 0 || fate == 1 || fate == 5;
        dueDuds("FATE " + fate + ", seen " + seen, x, counts && seen == 0 ? 1 : 0,
            counts ? 0 : seen, counts ? seen == 1 ? 0 : 2 : -2);
      }
    }
  }

  // "(the CUE's as written, or stretched)": not as late as it was told to be.
  private static void ticksAsWrittenOrStretched() {
    for (int late = 0; late <= 5; late++) {
      LightScript x = desk();
      write(x, 2, 10, 1, 0, 0, 0, 0);
      x.fault(0, late);
      sees(x, 1, 98);
      dueDuds("late by " + late + ", seen at 98", x, 0, 0, 0);
      sees(x, 1, 102);
      dueDuds("late by " + late + ", seen at 102", x, 0, 0, 0);
      sees(x, 1, 103);
      dueDuds("late by " + late + ", seen at 103", x, 1, 1, 2);
      x.stretch(50, 2, 1);
      dueDuds("stretched to 150", x, 1, 1, 2);
      due("SEEN stay", x.count(6), 1);
      sees(x, 1, 148);
      dueDuds("stretched to 150, seen at 148", x, 0, 0, 0);
      sees(x, 1, 153);
      dueDuds("stretched to 150, seen at 153", x, 1, 1, 2);
    }
  }

  // "LATE (of the KIND it has)"
  private static void kindItHas() {
    for (int fault = 0; fault <= 6; fault += 6) {
      for (int own = 0; own <= 5; own++) {
        LightScript x = desk();
        // KIND 0 is on land, KIND 1 stands for it.
        x.kind(0, 5, 10, 0, 4010 + own);
        x.kind(1, 5, 50, 0, 1010 + 5 - own);
        write(x, 2, 10, 1, 0, 1, 0, 1, 0, 0, 0, 0);
        x.fault(0, fault);
        x.fault(1, fault);
        due("REPLACED, or a dud", x.fate(0), fault == 0 ? 1 : 5);
        sees(x, 1, 100 + 5 - own);
        due("as LATE as the KIND it has", x.dud(0) == 2 ? 1 : 0, 0);
        due("as LATE as its own", x.dud(1) == 2 ? 1 : 0, own >= 5 - own ? 0 : 1);
        sees(x, 1, 100 - 6 + own);
        due("later than the KIND it has", x.dud(0), 2);
        due("as LATE as its own", x.dud(1), own >= 6 - own ? 0 : 2);
      }
    }
  }

  // "NONE: no such CUE"
  private static void dudOfNoCue() {
    LightScript x = desk();
    due("dud, no CUES", x.dud(0), -1);
    write(x, 2, 10, 3, 0, 0, 3, 0);
    for (int c : new int[] {-1, 3, 119, 120, MIN, MAX}) {
      due("dud(" + c + ")", x.dud(c), -1);
    }
    x.halt(0);
    due("dud(2), HALTED", x.dud(2), -2);
    due("dud(3)", x.dud(3), -1);
    x.halt(-1);
    due("dud(2)", x.dud(2), 2);
    write(x, 2, 10, 6, 8, 6, 5, 3, 0, 0, 3, 7, 7, 0);
    x.seen(100, 1);
    due("dud(119)", x.dud(119), 1);
    due("dud(120)", x.dud(120), -1);
  }

  // "SURELY if no greatest MATCHING has it, MAYBE if some has and some hasn't, else NOT"
  private static void surelyMaybeNot() {
    for (int cues = 1; cues <= 4; cues++) {
      for (int seen = 0; seen <= 5; seen++) {
        LightScript x = desk();
        write(x, 2, 10, 3, 0, 0, cues, 0);
        for (int i = 0; i < seen; i++) {
          x.seen(98 + i, 1);
        }
        int want = seen == 0 ? 2 : seen < cues ? 1 : 0;
        int[] all = {want, want, want, want};
        dueDuds(cues + " CUES, " + seen + " SEEN", x, Math.max(0, cues - seen),
            Math.max(0, seen - cues), java.util.Arrays.copyOf(all, cues));
      }
    }
  }

  // "gives CUES one SEEN each"
  private static void oneSeenEach() {
    LightScript x = desk();
    write(x, 2, 10, 1, 0, 0, 0, 0);
    for (int n = 1; n <= 60; n++) {
      x.seen(98 + n % 5, 1);
      if (n < 4 || n > 58) {
        dueDuds(n + " SEEN for one CUE", x, 0, n - 1, 0);
      }
    }
  }

  // "none to two"
  private static void noneToTwo() {
    LightScript x = desk();
    due("write", write(x, 2, 10, 6, 8, 6, 5, 3, 0, 0, 3, 7, 7, 0), 120);
    x.seen(100, 1);
    dueDuds("one SEEN for 120 CUES", x, 119, 0, 1);
    due("dud(119)", x.dud(119), 1);
    for (int n = 2; n <= 60; n++) {
      x.seen(100, 1);
    }
    dueDuds("60 SEEN for 120 CUES", x, 60, 0, 1);
    due("dud(119)", x.dud(119), 1);
  }

  // "a greatest one has the most": it isn't enough to give each the first that is free.
  private static void aGreatestHasTheMost() {
    // CUE 0 (LATE 5), CUE 1 (LATE 2), CUE 2 (LATE 0), all at 100; in each order of those told.
    int[][] kinds = {{1, 0, 2}, {1, 2, 0}, {0, 1, 2}, {0, 2, 1}, {2, 0, 1}, {2, 1, 0}};
    int[][] ticks = {{100, 98, 95}, {95, 98, 100}, {98, 100, 105}, {105, 102, 100}, {100, 105, 98}};
    for (int[] k : kinds) {
      LightScript x = desk();
      x.kind(1, 5, 50, 0, 1015);
      x.kind(2, 5, 50, 0, 1010);
      write(x, 2, 10, 1, k[0], 0, 0, 1, k[1], 0, 0, 1, k[2], 0, 0, 0);
      for (int[] t : ticks) {
        sees(x, 1, t);
        dueDuds("each has its own", x, 0, 0, 0, 0, 0);
      }
      // Two at 98 and one at 100: the one of LATE 2 and that of LATE 5 have those.
      sees(x, 1, 98, 100, 98);
      dueDuds("each has its own", x, 0, 0, 0, 0, 0);
      sees(x, 1, 98, 98, 98);
      int[] duds = new int[3];
      for (int c = 0; c < 3; c++) {
        duds[c] = k[c] == 2 ? 2 : 0;
      }
      dueDuds("none at 100", x, 1, 1, duds);
      sees(x, 1, 95, 105, 95);
      for (int c = 0; c < 3; c++) {
        duds[c] = k[c] == 1 ? 0 : 2;
      }
      dueDuds("none near", x, 2, 2, duds);
      sees(x, 1, 100, 105);
      for (int c = 0; c < 3; c++) {
        duds[c] = k[c] == 1 ? 0 : 1;
      }
      dueDuds("one for two", x, 1, 0, duds);
    }
  }

  private static void maybeByAChain() {
    LightScript x = desk();
    // CUES at 100, 104, 108, 112, all LATE 2: neighbours share a TICK.
    write(x, 2, 10, 8, 4, 6, 4, 1, 0, 0, 0, 2, 1, 7, 0);
    sees(x, 1, 102, 106, 110);
    dueDuds("a chain with one too few", x, 1, 0, 1, 1, 1, 1);
    sees(x, 1, 98, 102, 106, 110);
    dueDuds("a chain with an end", x, 0, 0, 0, 0, 0, 0);
    sees(x, 1, 102, 110);
    dueDuds("two pairs", x, 2, 0, 1, 1, 1, 1);
    sees(x, 1, 102, 104);
    dueDuds("a chain with a sure one", x, 2, 0, 0, 0, 2, 2);
    sees(x, 1, 102, 102);
    dueDuds("two for two", x, 2, 0, 0, 0, 2, 2);
    sees(x, 1, 102, 102, 102);
    dueDuds("three for two", x, 2, 1, 0, 0, 2, 2);
    sees(x, 1, 102, 102, 106);
    dueDuds("two for two, and one", x, 1, 0, 0, 0, 0, 2);
    sees(x, 1, 102, 106);
    dueDuds("two for three", x, 2, 0, 1, 1, 1, 2);
    sees(x, 1, 97, 103, 115);
    dueDuds("two strange ones", x, 3, 2, 2, 0, 2, 2);
  }

  // A BURST is told when it is told, not in the order of its TICK.
  private static void toldInAnyOrder() {
    int[][] orders = {{0, 1, 2}, {0, 2, 1}, {1, 0, 2}, {1, 2, 0}, {2, 0, 1}, {2, 1, 0}};
    // CUES at 100, 104 and 108, all LATE 2: each has its own only if the least TICK goes first.
    int[][] ticks = {{98, 102, 106}, {102, 106, 110}, {98, 102, 110}, {98, 106, 110}};
    for (int[] t : ticks) {
      for (int[] o : orders) {
        LightScript x = desk();
        write(x, 2, 10, 8, 4, 6, 3, 1, 0, 0, 0, 2, 1, 7, 0);
        sees(x, 1, t[o[0]], t[o[1]], t[o[2]]);
        dueDuds("in any order", x, 0, 0, 0, 0, 0);
      }
    }
    LightScript x = desk();
    write(x, 2, 10, 8, 4, 6, 3, 1, 0, 0, 0, 2, 1, 7, 0);
    sees(x, 1, 102, 98);
    dueDuds("backwards", x, 1, 0, 0, 0, 2);
    sees(x, 1, 106, 102, 98, 94);
    dueDuds("backwards", x, 0, 1, 0, 0, 0);
  }

  private static void theLastOf120() {
    LightScript x = desk();
    x.kind(1, 5, 50, 0, 1090);
    // 119 of COLOUR 1 at 100, the last of COLOUR 9.
    due("write", write(x, 2, 10, 6, 7, 6, 8, 3, 0, 0, 2, 7, 7, 3, 0, 0, 5, 3, 0, 0, 2, 1, 1, 0, 0,
        0), 120);
    due("dud(119), none SEEN", x.dud(119), 2);
    x.seen(100, 9);
    for (int turn = 0; turn < 2; turn++) {
      due("duds", x.duds(), 119);
      due("strange", x.strange(), 0);
      due("dud(119)", x.dud(119), 0);
      due("dud(118)", x.dud(118), 2);
    }
    x.seen(100, 1);
    due("duds", x.duds(), 118);
    due("dud(118)", x.dud(118), 1);
    due("dud(119)", x.dud(119), 0);
    for (int c = 0; c < 119; c++) {
      x.fault(c, c % 7);
    }
    due("duds", x.duds(), 118);
    x.place(119, -1);
    due("duds", x.duds(), 118);
    due("strange", x.strange(), 1);
    due("dud(119)", x.dud(119), -2);
  }

  // Each of the three goes by what is told now, whichever was asked before.
  private static void askedAtAnyTime() {
    for (int turn = 0; turn < 3; turn++) {
      LightScript x = desk();
      write(x, 2, 10, 1, 0, 0, 0, 0);
      x.seen(100, 1);
      for (int halt : new int[] {-1, 95, 96, 0, -1}) {
        x.halt(halt);
        boolean halted = halt >= 0 && halt <= 95;
        long[] got = new long[3];
        for (int i = 0; i < 3; i++) {
          int which = (i + turn) % 3;
          got[which] = which == 0 ? x.duds() : which == 1 ? x.strange() : x.dud(0);
        }
        due("duds, HALT " + halt, got[0], 0);
        due("strange, HALT " + halt, got[1], halted ? 1 : 0);
        due("dud, HALT " + halt, got[2], halted ? -2 : 0);
      }
    }
  }

  private static void noCues() {
    LightScript x = new LightScript();
    dueDuds("no CUES", x, 0, 0);
    x.seen(0, 1);
    x.seen(20010, 9);
    dueDuds("no CUES, two SEEN", x, 0, 2);
  }

  // SEEN are gone with other CUES (write, back), and stay with others' calls.
  private static void goneWithOtherCues() {
    LightScript x = desk();
    write(x, 2, 10, 1, 0, 0, 0, 0);
    x.keep(2);
    x.seen(100, 1);
    due("write refused", write(x, 9), -100);
    due("SEEN stay", x.count(6), 1);
    due("back refused", x.back(0), -12);
    due("SEEN stay", x.count(6), 1);
    due("back", x.back(2), 1);
    due("SEEN are gone", x.unseen(), 0);
    x.seen(100, 1);
    due("write", write(x, 0), 0);
    due("SEEN are gone", x.unseen(), 0);
    x.seen(100, 1);
    x.place(0, 0);
    x.keep(3);
    x.lay(0);
    x.stretch(0, 1, 1);
    due("SEEN stay", x.unseen(), 1);
  }
}
