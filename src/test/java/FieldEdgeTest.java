// The boundaries that part I and promises 1 to 10 name, each on both its sides.
public final class FieldEdgeTest {
  private static int wrong = 0;

  private static void due(String call, long got, long want) {
    if (got != want) {
      wrong++;
      System.out.println(call + " answered " + got + ", due is " + want);
    }
  }

  private static final int MIN = Integer.MIN_VALUE;
  private static final int MAX = Integer.MAX_VALUE;

  public static void main(String[] args) {
    cellsFrom0To31();
    eachCellIsItsOwn();
    groundIsOneOfThree();
    newObjectIsAllWater();
    kindNumbers();
    liftFrom1To60();
    heightFrom10To300();
    spreadFrom0To60();
    burnFrom1To99();
    colourFrom1To9();
    lateFrom0To5();
    restIsOneSum();
    toldAnewBeforeItsCues();
    bargeNumbersAndCells();
    channelsFrom1To40();
    reachIsHalfTheHeight();
    reachAlongBoth();
    reachBeyondTheField();
    windNumbers();
    driftFrom50To50();
    windsAreStillAtFirst();
    windsForAll();
    anglesFrom4To4();
    embersFrom0To4();
    cellOfAPlace();
    cellOfAPlaceAtTheRim();
    hotCellsAtTheCorners();
    layersAt500();
    layersAt500FromHalfHeight();
    layersAbove2500();
    hotWhenNotAboveZero();
    halfHotWhenNotAboveZero();
    steppedNoMore();
    spreadOfTheFive();
    anglesMoveXAlone();
    safeOnEachGround();
    safeBeyondEachSide();
    gapFrom0To20();
    beginForgets();
    System.out.println(wrong == 0 ? "all answers are as due" : wrong + " answers are not as due");
    if (wrong != 0) {
      System.exit(1);
    }
  }

  // "THE FIELD: cells x, y 0 .. 31"
  private static void cellsFrom0To31() {
    LightScript x = new LightScript();
    for (int u : new int[] {0, 31}) {
      for (int v : new int[] {0, 31}) {
        due("cell(" + u + ", " + v + ")", x.cell(u, v, 1), 0);
        due("cell(" + u + ", " + v + ")", x.cell(u, v, 0), 1);
      }
    }
    for (int beyond : new int[] {-1, 32, -32, 64, MIN, MAX}) {
      for (int in : new int[] {0, 15, 31}) {
        due("cell(" + beyond + ", " + in + ")", x.cell(beyond, in, 1), -1);
        due("cell(" + in + ", " + beyond + ")", x.cell(in, beyond, 1), -1);
      }
      due("cell(" + beyond + ", " + beyond + ")", x.cell(beyond, beyond, 1), -1);
    }
    for (int v = 0; v < 32; v++) {
      due("still water", x.cell(0, v, 0) + x.cell(31, v, 0) + x.cell(v, 0, 0) + x.cell(v, 31, 0),
          0);
    }
  }

  private static void eachCellIsItsOwn() {
    for (int y = 0; y < 32; y++) {
      for (int x = 0; x < 32; x++) {
        LightScript f = new LightScript();
        String name = "cell(" + x + ", " + y + ")";
        due(name, f.cell(x, y, 1 + (x + y) % 2), 0);
        int[][] others = {{y, x}, {x + 1, y}, {x - 1, y}, {x, y + 1}, {x, y - 1}, {31 - x, y},
            {x, 31 - y}};
        for (int[] o : others) {
          boolean field = o[0] >= 0 && o[0] < 32 && o[1] >= 0 && o[1] < 32;
          if (field && (o[0] != x || o[1] != y)) {
            due("beside " + name, f.cell(o[0], o[1], 0), 0);
          }
        }
        due(name, f.cell(x, y, 0), 1 + (x + y) % 2);
        due(name, f.cell(x, y, 2), 0);
      }
    }
  }

  // "each is WATER (0, at first), LAND (1) or CROWD (2)"
  private static void groundIsOneOfThree() {
    LightScript x = new LightScript();
    int was = 0;
    for (int what : new int[] {0, 1, 2, 2, 1, 0}) {
      due("cell to " + what, x.cell(7, 8, what), was);
      was = what;
      for (int no : new int[] {-1, 3, MIN, MAX}) {
        due("cell to " + no, x.cell(7, 8, no), -1);
      }
    }
  }

  private static void newObjectIsAllWater() {
    for (int y = 0; y < 32; y += 8) {
      LightScript x = new LightScript();
      for (int i = 0; i < 256; i++) {
        due("new cell", x.cell(i % 32, y + i / 32, 0), 0);
      }
    }
  }

  // "KINDS 0 .. 11 of lights, told by number"
  private static void kindNumbers() {
    LightScript x = new LightScript();
    for (int k : new int[] {-1, 12, MIN, MAX}) {
      due("kind(" + k + ")", x.kind(k, 5, 50, 0, 1010), -1);
      due("count(0)", x.count(0), 0);
    }
    x.barge(0, 5, 5, 1);
    for (int k = 0; k < 12; k++) {
      due("may, not yet told", x.may(0, k), -1);
      due("safe, not yet told", x.safe(k, 0, 0, 0), -1);
      due("hot, not yet told", x.hot(k, 0, 0, 0, 0), -1);
      due("kind(" + k + ")", x.kind(k, 5, 50, 0, 1010), k);
      due("count(0)", x.count(0), k + 1);
      due("may, told", x.may(0, k), 1);
      due("safe, told", x.safe(k, 0, 0, 0), 1);
      due("hot, told", x.hot(k, 0, 0, 0, 0), -2);
      due("kind anew", x.kind(k, 6, 50, 0, 1010), k);
      due("count(0)", x.count(0), k + 1);
    }
    due("may(0, 12)", x.may(0, 12), -1);
    due("may(0, -1)", x.may(0, -1), -1);
  }

  /** Each of the five is wrong in its turn, the others are as said. */
  private static void dueKind(LightScript x, int lift, int height, int spread, int rest,
      boolean asSaid) {
    due("kind(0, " + lift + ", " + height + ", " + spread + ", " + rest + ")",
        x.kind(0, lift, height, spread, rest), asSaid ? 0 : -1);
  }

  // "LIFT (1 .. 60 TICKS from its FIRE to its BURST)"
  private static void liftFrom1To60() {
    LightScript x = new LightScript();
    for (int lift : new int[] {0, -1, 61, MIN, MAX}) {
      dueKind(x, lift, 50, 0, 1010, false);
    }
    due("count(0)", x.count(0), 0);
    for (int lift : new int[] {1, 2, 59, 60}) {
      dueKind(x, lift, 50, 0, 1010, true);
      x.tape(0, 1, 7);
      int[] row = {2, 6, 1, 0, -1, 0, 0};
      for (int i = 0; i < row.length; i++) {
        x.put(0, i, row[i]);
      }
      due("write", x.write(0), 1);
      due("burst", x.cue(0, 0), 60);
      due("fire of lift " + lift, x.cue(0, 4), 60 - lift);
    }
  }

  // "HEIGHT (10 .. 300 metres)"
  private static void heightFrom10To300() {
    LightScript x = new LightScript();
    for (int height : new int[] {9, 0, -10, 301, MIN, MAX}) {
      dueKind(x, 5, height, 0, 1010, false);
    }
    due("count(0)", x.count(0), 0);
    x.barge(0, 16, 16, 1);
    for (int height : new int[] {10, 11, 299, 300}) {
      dueKind(x, 5, height, 0, 1010, true);
    }
    x.cell(16, 9, 2);
    due("may, reach 1500", x.may(0, 0), 0);
    dueKind(x, 5, 301, 0, 1010, false);
    dueKind(x, 5, 9, 0, 1010, false);
    due("may, reach 1500", x.may(0, 0), 0);
    dueKind(x, 5, 10, 0, 1010, true);
    due("may, reach 50", x.may(0, 0), 1);
  }

  // "SPREAD (0 .. 60 metres)"
  private static void spreadFrom0To60() {
    LightScript x = new LightScript();
    for (int spread : new int[] {-1, 61, MIN, MAX}) {
      dueKind(x, 5, 10, spread, 4010, false);
    }
    due("count(0)", x.count(0), 0);
    x.barge(0, 16, 16, 1);
    dueKind(x, 5, 10, 0, 4010, true);
    due("hot, spread 0", x.hot(0, 0, 0, 0, 1), 32 * 16 + 16);
    dueKind(x, 5, 10, 60, 4010, true);
    due("hot, spread 60", x.hot(0, 0, 0, 0, 1), 32 * 16 + 19);
    due("hot, spread 60", x.hot(0, 0, 0, 0, 2), 32 * 16 + 13);
  }

  // "BURN (1 .. 99 TICKS)"
  private static void burnFrom1To99() {
    LightScript x = new LightScript();
    for (int burn : new int[] {0, -1, 100, 101}) {
      dueKind(x, 5, 10, 0, 1000 * burn + 10, false);
      dueKind(x, 5, 10, 0, 1000 * burn + 95, false);
    }
    due("count(0)", x.count(0), 0);
    x.barge(0, 16, 16, 1);
    dueKind(x, 5, 247, 0, 98010, true);
    due("hot after 98", x.hot(0, 0, 0, 0, 0), -2);
    dueKind(x, 5, 247, 0, 99010, true);
    due("hot after 99", x.hot(0, 0, 0, 0, 0), 32 * 16 + 16);
    dueKind(x, 5, 10, 0, 1010, true);
    due("hot after 1", x.hot(0, 0, 0, 0, 0), -2);
  }

  // "COLOUR (1 .. 9)"
  private static void colourFrom1To9() {
    LightScript x = new LightScript();
    for (int burn = 1; burn <= 99; burn += 49) {
      for (int late = 0; late <= 5; late++) {
        dueKind(x, 5, 10, 0, 1000 * burn + late, false);
        dueKind(x, 5, 10, 0, 1000 * burn + 100 + late, false);
        dueKind(x, 5, 10, 0, 1000 * burn - 10 + late, false);
        if (burn == 1 && late == 0) {
          due("count(0)", x.count(0), 0);
        }
        dueKind(x, 5, 10, 0, 1000 * burn + 10 + late, true);
        dueKind(x, 5, 10, 0, 1000 * burn + 90 + late, true);
      }
    }
  }

  // "LATE (0 .. 5 TICKS)"
  private static void lateFrom0To5() {
    LightScript x = new LightScript();
    for (int colour = 1; colour <= 9; colour++) {
      for (int late = 0; late <= 9; late++) {
        dueKind(x, 5, 10, 0, 2000 + 10 * colour + late, late <= 5);
      }
      dueKind(x, 5, 10, 0, 2000 + 10 * colour - 1, false);
    }
  }

  // "1000 BURN + 10 COLOUR + LATE": no other number is such a sum.
  private static void restIsOneSum() {
    LightScript x = new LightScript();
    for (int rest : new int[] {0, 10, 95, 999, 1000, 1009, 1096, 1100, 1110, 1195, 1215, 1500, 1995,
        1999, 2000, 99096, 99100, 99110, 99999, 100000, 100010, 100095, 110010, -1, -1010, -99095,
        MIN, MIN + 1010, MAX, MAX - 1010}) {
      dueKind(x, 5, 10, 0, rest, false);
    }
    due("count(0)", x.count(0), 0);
    for (int rest : new int[] {1010, 1095, 2010, 50055, 99010, 99095}) {
      dueKind(x, 5, 10, 0, rest, true);
    }
    // The whole range of an int, far and near, by steps that meet all remainders.
    for (int i = 0; i < 300; i++) {
      int rest = 98900 + i;
      boolean asSaid = rest / 1000 <= 99 && rest / 10 % 100 >= 1 && rest / 10 % 100 <= 9
          && rest % 10 <= 5;
      dueKind(x, 5, 10, 0, rest, asSaid);
    }
  }

  // "EARLY: it is told anew, and a CUE of it would have a FIRE below 0."
  private static void toldAnewBeforeItsCues() {
    LightScript x = new LightScript();
    x.kind(0, 5, 50, 0, 1010);
    x.kind(1, 5, 50, 0, 1010);
    x.barge(0, 5, 5, 9);
    // CUES of KIND 0 at 30 and 20 (OPEN), one of KIND 1 at 10.
    int[] row = {2, 1, 1, 1, 0, 0, 2, 1, 1, 0, -1, 0, 2, 1, 1, 0, 0, 0, 0};
    x.tape(0, 1, row.length);
    for (int i = 0; i < row.length; i++) {
      x.put(0, i, row[i]);
    }
    due("write", x.write(0), 3);
    due("lift 20: FIRE 0", x.kind(0, 20, 50, 0, 1010), 0);
    due("cue fire", x.cue(1, 4), 0);
    due("lift 21: FIRE -1", x.kind(0, 21, 50, 0, 1010), -5);
    due("lift 60", x.kind(0, 60, 50, 0, 1010), -5);
    due("cue fire", x.cue(1, 4), 0);
    due("cue fire", x.cue(2, 4), 10);
    due("lift 10 of the other", x.kind(1, 10, 50, 0, 1010), 1);
    due("lift 11 of the other", x.kind(1, 11, 50, 0, 1010), -5);
    due("lift 60 of one without CUES", x.kind(2, 60, 50, 0, 1010), 2);
    due("lift 60 of one without CUES, anew", x.kind(2, 60, 50, 0, 1010), 2);
    due("NONE goes ahead of EARLY", x.kind(0, 21, 50, 0, 1000), -1);
    due("NONE goes ahead of EARLY", x.kind(0, 61, 50, 0, 1010), -1);
    x.keep(1);
    x.tape(0, 1, 1);
    due("no CUES", x.write(0), 0);
    due("the ones kept on a TAPE don't count", x.kind(0, 60, 50, 0, 1010), 0);
    due("back", x.back(1), -5);
  }

  // "BARGES 0 .. 5, told by number: a cell"
  private static void bargeNumbersAndCells() {
    LightScript x = new LightScript();
    x.kind(0, 5, 10, 0, 4010);
    for (int s : new int[] {-1, 6, MIN, MAX}) {
      due("barge(" + s + ")", x.barge(s, 5, 5, 1), -1);
    }
    for (int v : new int[] {-1, 32, MIN, MAX}) {
      due("barge x " + v, x.barge(0, v, 5, 1), -1);
      due("barge y " + v, x.barge(0, 5, v, 1), -1);
    }
    due("count(1)", x.count(1), 0);
    for (int s = 0; s < 6; s++) {
      due("may, not yet told", x.may(s, 0), -1);
      due("safe, not yet told", x.safe(0, s, 0, 0), -1);
      due("hot, not yet told", x.hot(0, s, 0, 0, 0), -1);
      int u = s % 2 == 0 ? 0 : 31;
      int v = s % 3 == 0 ? 31 : 0;
      due("barge(" + s + ")", x.barge(s, u, v, 1), s);
      due("count(1)", x.count(1), s + 1);
      due("it lies there", x.hot(0, s, 0, 0, 0), 32 * v + u);
      due("barge anew", x.barge(s, v, u, 40), s);
      due("count(1)", x.count(1), s + 1);
      due("it lies there", x.hot(0, s, 0, 0, 0), 32 * u + v);
      due("refused", x.barge(s, 32, 7, 1) + x.barge(s, 7, 32, 1) + x.barge(s, 7, 7, 0), -3);
      due("it lies there yet", x.hot(0, s, 0, 0, 0), 32 * u + v);
    }
    due("may(6, 0)", x.may(6, 0), -1);
    due("may(-1, 0)", x.may(-1, 0), -1);
  }

  // "CHANNELS (1 .. 40)"
  private static void channelsFrom1To40() {
    LightScript x = new LightScript();
    for (int channels : new int[] {0, -1, 41, MIN, MAX}) {
      due("barge of " + channels, x.barge(0, 5, 5, channels), -1);
      due("count(1)", x.count(1), 0);
    }
    due("barge of 1", x.barge(0, 5, 5, 1), 0);
    due("barge of 40", x.barge(1, 5, 5, 40), 1);
    due("count(1)", x.count(1), 2);
  }

  // "REACH of a KIND: 5 times its HEIGHT", "REACH or less away"
  private static void reachIsHalfTheHeight() {
    int[][] ways = {{1, 0}, {-1, 0}, {0, 1}, {0, -1}, {1, 1}, {1, -1}, {-1, 1}, {-1, -1}};
    for (int far = 1; far <= 7; far++) {
      for (int[] way : ways) {
        LightScript x = new LightScript();
        x.barge(0, 16, 16, 1);
        x.cell(16 + far * way[0], 16 + far * way[1], 2);
        x.kind(0, 5, 40 * far, 0, 1010);
        x.kind(1, 5, 40 * far - 1, 0, 1010);
        due("may, a crowd " + far + " away, in reach", x.may(0, 0), 0);
        due("may, a crowd " + far + " away, out of reach", x.may(0, 1), 1);
        x.cell(16 + far * way[0], 16 + far * way[1], 1);
        due("may, land in reach", x.may(0, 0), 1);
      }
    }
    LightScript x = new LightScript();
    x.barge(0, 16, 16, 1);
    x.kind(0, 5, 300, 0, 1010);
    x.kind(1, 5, 10, 0, 1010);
    x.cell(16, 24, 2);
    x.cell(8, 16, 2);
    due("may, 1500 reaches 7 cells, not 8", x.may(0, 0), 1);
    x.cell(23, 23, 2);
    due("may, 1500 reaches 7 cells", x.may(0, 0), 0);
    due("may, 50 reaches no other cell", x.may(0, 1), 1);
    x.cell(16, 16, 2);
    due("may, a crowd on the barge's own cell", x.may(0, 1), 0);
  }

  // "both along X and along Y"
  private static void reachAlongBoth() {
    for (int across = -7; across <= 7; across++) {
      LightScript x = new LightScript();
      x.barge(0, 16, 16, 1);
      x.kind(0, 5, 120, 0, 1010);
      boolean near = across >= -3 && across <= 3;
      x.cell(16 + across, 19, 2);
      due("may, " + across + " along X, 3 along Y", x.may(0, 0), near ? 0 : 1);
      x.cell(16 + across, 19, 0);
      x.cell(16 + across, 12, 2);
      due("may, " + across + " along X, 4 along Y", x.may(0, 0), 1);
      x.cell(16 + across, 12, 0);
      x.cell(13, 16 + across, 2);
      due("may, 3 along X, " + across + " along Y", x.may(0, 0), near ? 0 : 1);
      x.cell(13, 16 + across, 0);
      x.cell(20, 16 + across, 2);
      due("may, 4 along X, " + across + " along Y", x.may(0, 0), 1);
    }
  }

  // "all beyond is LAND": no CROWD is there, nor on the other side of THE FIELD.
  private static void reachBeyondTheField() {
    int[][] corners = {{0, 0}, {31, 0}, {0, 31}, {31, 31}, {0, 15}, {31, 15}, {15, 0}, {15, 31}};
    for (int[] at : corners) {
      LightScript x = new LightScript();
      x.barge(0, at[0], at[1], 1);
      x.kind(0, 5, 300, 0, 1010);
      due("may at the rim", x.may(0, 0), 1);
      for (int v = 0; v < 32; v++) {
        if (Math.abs(v - at[0]) > 7) {
          x.cell(v, at[1], 2);
        }
        if (Math.abs(v - at[1]) > 7) {
          x.cell(at[0], v, 2);
        }
      }
      due("may at the rim, crowds out of reach", x.may(0, 0), 1);
      int nearX = at[0] == 31 ? 24 : at[0] == 0 ? 7 : at[0];
      int nearY = at[1] == 31 ? 24 : at[1] == 0 ? 7 : at[1];
      x.cell(nearX, nearY, 2);
      due("may at the rim, a crowd in reach", x.may(0, 0), 0);
      x.cell(nearX, nearY, 0);
      due("may at the rim, none again", x.may(0, 0), 1);
      x.cell(at[0], at[1], 2);
      due("may at the rim, a crowd in its own cell", x.may(0, 0), 0);
      x.kind(0, 5, 10, 0, 1010);
      due("may at the rim, a crowd in its own cell", x.may(0, 0), 0);
    }
  }

  // "WINDS 0 .. 3: for each of 5 LAYERS"
  private static void windNumbers() {
    LightScript x = new LightScript();
    x.kind(0, 5, 10, 0, 4010);
    x.kind(1, 5, 247, 0, 99010);
    x.barge(0, 16, 16, 1);
    for (int w : new int[] {-1, 4, MIN, MAX}) {
      due("wind(" + w + ")", x.wind(w, 0, 50, 50), -1);
      due("safe in it", x.safe(0, 0, 0, w), -1);
      due("hot in it", x.hot(0, 0, 0, w, 0), -1);
    }
    for (int layer : new int[] {-1, 5, MIN, MAX}) {
      due("wind layer " + layer, x.wind(0, layer, 50, 50), -1);
    }
    for (int w = 0; w < 4; w++) {
      due("still", x.hot(0, 0, 0, w, 0), 32 * 16 + 16);
      due("still above", x.hot(1, 0, 0, w, 0), 32 * 16 + 16);
      due("wind(" + w + ", 0)", x.wind(w, 0, 50, 0), 0);
      due("blown", x.hot(0, 0, 0, w, 0), 32 * 16 + 17);
      due("wind(" + w + ", 4)", x.wind(w, 4, 0, 50), 0);
      // 19 of its ticks are in layer 4: 950 along Y; 20 in layer 0: 1000 along X.
      due("blown in layer 4", x.hot(1, 0, 0, w, 0), 32 * 21 + 21);
      due("not blown in layer 4", x.hot(0, 0, 0, w, 0), 32 * 16 + 17);
    }
  }

  // "a drift in X and Y a TICK (-50 .. 50; 0 at first)"
  private static void driftFrom50To50() {
    LightScript x = new LightScript();
    x.kind(0, 5, 10, 0, 4010);
    x.barge(0, 16, 16, 1);
    for (int no : new int[] {-51, 51, MIN, MAX}) {
      due("wind dx " + no, x.wind(0, 0, no, 0), -1);
      due("wind dy " + no, x.wind(0, 0, 0, no), -1);
      due("wind dx " + no, x.wind(0, 0, no, 50), -1);
      due("wind dy " + no, x.wind(0, 0, 50, no), -1);
      due("still", x.hot(0, 0, 0, 0, 0), 32 * 16 + 16);
    }
    for (int dx : new int[] {-50, 0, 50}) {
      for (int dy : new int[] {-50, 0, 50}) {
        due("wind", x.wind(0, 0, dx, dy), 0);
        due("blown", x.hot(0, 0, 0, 0, 0), 32 * (16 + dy / 50) + 16 + dx / 50);
      }
    }
  }

  // Embers at 3390 and 3200 are 10 and none short of other cells, so 20 ticks by 1 would be seen.
  private static void windsAreStillAtFirst() {
    LightScript x = new LightScript();
    for (int turn = 0; turn < 3; turn++) {
      x.kind(0, 5, 247, 9, 99010);
      x.kind(11, 5, 247, 10, 99010);
      x.barge(0, 16, 16, 1);
      for (int w = 0; w < 4; w++) {
        due("still in all layers, middle", x.hot(0, 0, 0, w, 0), 32 * 16 + 16);
        due("still in all layers, to greater X", x.hot(0, 0, 0, w, 1), 32 * 16 + 16);
        due("still in all layers, to lesser X", x.hot(11, 0, 0, w, 2), 32 * 16 + 16);
        due("still in all layers, to greater Y", x.hot(0, 0, 0, w, 3), 32 * 16 + 16);
        due("still in all layers, to lesser Y", x.hot(11, 0, 0, w, 4), 32 * 16 + 16);
      }
      for (int i = 0; i < 20; i++) {
        x.wind(i / 5, i % 5, 50, -50);
      }
      for (int w = 0; w < 4; w++) {
        due("blown far", x.hot(0, 0, 0, w, 0), -3);
        due("blown far", x.hot(11, 0, 0, w, 0), -3);
      }
      x.begin();
    }
  }

  // A WIND told blows for each KIND and from each BARGE, those told before it too.
  private static void windsForAll() {
    for (int turn = 0; turn < 2; turn++) {
      LightScript x = new LightScript();
      if (turn == 1) {
        x.wind(2, 0, -50, 50);
      }
      for (int k = 0; k < 12; k++) {
        x.kind(k, 5, 10 + k, 0, 9010);
      }
      for (int s = 0; s < 6; s++) {
        x.barge(s, 5 * s + 3, 16, 1);
      }
      if (turn == 0) {
        x.wind(2, 0, -50, 50);
      }
      for (int i = 0; i < 72; i++) {
        int k = i / 6;
        int s = i % 6;
        // 10 and 10 for each number fall in so many ticks of 25.
        int off = 50 * ((100 + 10 * k + 24) / 25);
        int at = 1000 * s + 700;
        due("still", x.hot(k, s, 0, 1, 0), 32 * 16 + at / 200);
        due("blown", x.hot(k, s, 0, 2, 0), 32 * ((3300 + off) / 200) + (at - off) / 200);
        due("safe", x.safe(k, s, 0, 2), 1);
      }
    }
  }

  // "at an ANGLE (-4 .. 4)"
  private static void anglesFrom4To4() {
    LightScript x = new LightScript();
    x.kind(0, 5, 50, 0, 20010);
    x.barge(0, 16, 16, 1);
    int[] cells = {15, 15, 16, 16, 16, 16, 17, 17, 17};
    for (int angle = -4; angle <= 4; angle++) {
      due("safe", x.safe(0, 0, angle, 0), 1);
      // 3300 and 50 for each: 3100, 3150, 3200, 3250, 3300, 3350, 3400, 3450, 3500.
      due("hot at " + angle, x.hot(0, 0, angle, 0, 0), 32 * 16 + cells[angle + 4]);
    }
    for (int angle : new int[] {-5, 5, MIN, MAX}) {
      due("safe", x.safe(0, 0, angle, 0), -1);
      due("hot", x.hot(0, 0, angle, 0, 0), -1);
    }
  }

  // "i not 0 .. 4"
  private static void embersFrom0To4() {
    LightScript x = new LightScript();
    x.kind(0, 5, 10, 20, 4010);
    x.kind(1, 5, 10, 0, 3010);
    x.barge(0, 16, 16, 1);
    x.barge(1, 0, 0, 1);
    int[] cells = {32 * 16 + 16, 32 * 16 + 17, 32 * 16 + 15, 32 * 17 + 16, 32 * 15 + 16};
    for (int i = 0; i < 5; i++) {
      due("hot " + i, x.hot(0, 0, 0, 0, i), cells[i]);
      due("cold " + i, x.hot(1, 0, 0, 0, i), -2);
      due("cold at the rim " + i, x.hot(1, 1, 0, 0, i), -2);
    }
    for (int i : new int[] {-1, 5, MIN, MAX}) {
      due("hot " + i, x.hot(0, 0, 0, 0, i), -1);
      due("cold " + i, x.hot(1, 0, 0, 0, i), -1);
      due("beyond " + i, x.hot(0, 1, 0, 0, i), -1);
    }
    due("beyond", x.hot(0, 1, 0, 0, 2), -3);
    due("within", x.hot(0, 1, 0, 0, 1), 1);
  }

  /** A barge at 16, 16; KIND 0 falls 5 ticks in layer 0, KIND 1 5 in layer 1 and 19 in layer 0. */
  private static LightScript fallers(int x, int y) {
    LightScript f = new LightScript();
    f.kind(0, 5, 11, 0, 5010);
    f.kind(1, 5, 60, 0, 24010);
    f.barge(0, x, y, 1);
    return f;
  }

  // "in the cell of the greatest whole numbers not above X / 200, Y / 200"
  private static void cellOfAPlace() {
    LightScript x = fallers(16, 16);
    x.wind(0, 0, 11, 0);
    due("99 to greater X", x.hot(0, 0, 4, 0, 0), 32 * 16 + 16);
    x.wind(0, 0, 20, 0);
    due("100 to greater X", x.hot(0, 0, 0, 0, 0), 32 * 16 + 17);
    x.wind(0, 0, -20, 0);
    due("100 to lesser X", x.hot(0, 0, 0, 0, 0), 32 * 16 + 16);
    x.wind(0, 0, -18, 0);
    due("101 to lesser X", x.hot(0, 0, -1, 0, 0), 32 * 16 + 15);
    x.wind(1, 1, 0, 16);
    x.wind(1, 0, 0, 1);
    due("99 to greater Y", x.hot(1, 0, 0, 1, 0), 32 * 16 + 16);
    x.wind(1, 1, 0, 20);
    x.wind(1, 0, 0, 0);
    due("100 to greater Y", x.hot(1, 0, 0, 1, 0), 32 * 17 + 16);
    x.wind(1, 1, 0, -20);
    due("100 to lesser Y", x.hot(1, 0, 0, 1, 0), 32 * 16 + 16);
    x.wind(1, 1, 0, -5);
    x.wind(1, 0, 0, -4);
    due("101 to lesser Y", x.hot(1, 0, 0, 1, 0), 32 * 15 + 16);
  }

  // "-3: beyond THE FIELD"; a place at -1 is in no cell, one at 0 in cell 0.
  private static void cellOfAPlaceAtTheRim() {
    LightScript x = fallers(0, 0);
    x.wind(0, 0, -20, 0);
    due("X 0", x.hot(0, 0, 0, 0, 0), 0);
    due("X 0 is safe", x.safe(0, 0, 0, 0), 1);
    x.wind(0, 0, -18, 0);
    due("X -1", x.hot(0, 0, -1, 0, 0), -3);
    due("X -1 isn't safe", x.safe(0, 0, -1, 0), 0);
    x.wind(1, 1, 0, -20);
    due("Y 0", x.hot(1, 0, 0, 1, 0), 0);
    due("Y 0 is safe", x.safe(1, 0, 0, 1), 1);
    x.wind(1, 1, 0, -5);
    x.wind(1, 0, 0, -4);
    due("Y -1", x.hot(1, 0, 0, 1, 0), -3);
    due("Y -1 isn't safe", x.safe(1, 0, 0, 1), 0);
    LightScript y = fallers(31, 31);
    y.wind(0, 0, 11, 0);
    due("X 6399", y.hot(0, 0, 4, 0, 0), 1023);
    due("X 6399 is safe", y.safe(0, 0, 4, 0), 1);
    y.wind(0, 0, 20, 0);
    due("X 6400", y.hot(0, 0, 0, 0, 0), -3);
    due("X 6400 isn't safe", y.safe(0, 0, 0, 0), 0);
    y.wind(1, 1, 0, 16);
    y.wind(1, 0, 0, 1);
    due("Y 6399", y.hot(1, 0, 0, 1, 0), 1023);
    due("Y 6399 is safe", y.safe(1, 0, 0, 1), 1);
    y.wind(1, 1, 0, 20);
    y.wind(1, 0, 0, 0);
    due("Y 6400", y.hot(1, 0, 0, 1, 0), -3);
    due("Y 6400 isn't safe", y.safe(1, 0, 0, 1), 0);
  }

  // "32 y + x of the cell"
  private static void hotCellsAtTheCorners() {
    LightScript x = new LightScript();
    x.kind(0, 5, 10, 0, 4010);
    int[][] corners = {{0, 0}, {31, 0}, {0, 31}, {31, 31}, {1, 0}, {0, 1}};
    int[] cells = {0, 31, 992, 1023, 1, 32};
    for (int s = 0; s < 6; s++) {
      x.barge(s, corners[s][0], corners[s][1], 1);
      due("hot in a corner", x.hot(0, s, 0, 0, 0), cells[s]);
    }
  }

  private static void dueLayer(int height, int burn, int angle, int layer, int drift, int base,
      int want) {
    LightScript x = new LightScript();
    x.kind(0, 5, height, 0, 1000 * burn + 10);
    x.barge(0, 10, 10, 1);
    x.wind(2, 0, base, 0);
    x.wind(2, layer, drift, 0);
    due("hot from " + 10 * height + ", a drift in layer " + layer, x.hot(0, 0, angle, 2, 0),
        320 + want);
  }

  // "the LAYER is the least of 4 and Z / 500"
  private static void layersAt500() {
    // From 500 it is one tick in layer 1, from 490 none: 2100, the angle, and the drift or not.
    dueLayer(50, 20, 1, 1, 50, 0, 11);
    dueLayer(49, 20, 2, 1, 50, 0, 10);
    dueLayer(51, 21, 1, 1, 50, 0, 11);
    dueLayer(100, 40, 1, 2, -50, 0, 10);
    dueLayer(99, 40, 3, 2, 50, 0, 11);
    dueLayer(150, 60, 2, 3, -50, 0, 11);
    dueLayer(149, 60, 2, 3, 50, 0, 11);
    // 76 and 80 by layer 0, so that 50 more are in the next cell.
    dueLayer(200, 80, 0, 4, 50, 4, 11);
    dueLayer(199, 80, 0, 4, 50, 4, 10);
  }

  private static void layersAt500FromHalfHeight() {
    // From 500 one tick in layer 1 drifts it back to its barge's cell; from 495 none does.
    for (int height = 99; height <= 100; height++) {
      LightScript x = new LightScript();
      x.kind(0, 5, height, 0, 20010);
      x.barge(0, 10, 10, 1);
      x.wind(1, 1, -50, 0);
      x.wind(2, 1, 10, 0);
      x.cell(11, 10, 2);
      due("cold from " + 10 * height, x.hot(0, 0, 1, 1, 0), -2);
      due("still, from half of " + height, x.safe(0, 0, 1, 0), height == 100 ? 0 : 1);
      due("drift back, from half of " + height, x.safe(0, 0, 1, 1), 1);
      due("drift on, from half of " + height, x.safe(0, 0, 1, 2), height == 100 ? 0 : 1);
    }
  }

  // Above 2500 it is layer 4 too; such a light is cold, but not from half its height.
  private static void layersAbove2500() {
    LightScript x = new LightScript();
    x.barge(0, 10, 10, 1);
    x.wind(1, 3, 0, 50);
    x.wind(2, 4, 0, 50);
    x.cell(10, 10, 2);
    for (int height : new int[] {249, 250, 251, 299, 300}) {
      x.kind(0, 5, height, 60, 99010);
      for (int w = 0; w < 4; w++) {
        for (int i = 0; i < 5; i++) {
          due("cold from " + 10 * height, x.hot(0, 0, 4, w, i), -2);
        }
        due("half of " + height + " on the crowd", x.safe(0, 0, 0, w), 0);
      }
    }
    // From 1500 one tick in layer 3 drifts it 50 along Y: with 19 by 3 more it is in the next cell.
    x.wind(1, 0, 0, 3);
    x.kind(0, 5, 300, 0, 99010);
    due("half of 300, by layers 3 and 0", x.safe(0, 0, 0, 1), 1);
    x.wind(1, 3, 0, 0);
    due("half of 300, by layer 0", x.safe(0, 0, 0, 1), 0);
  }

  // "if Z isn't above 0 then, it lands HOT there"
  private static void hotWhenNotAboveZero() {
    LightScript x = new LightScript();
    x.barge(0, 10, 10, 1);
    x.cell(10, 10, 1);
    for (int height = 10; height <= 60; height++) {
      // The least number of ticks after which 10 HEIGHT less 25 for each isn't above 0.
      int ticks = 1;
      while (10 * height - 25 * ticks > 0) {
        ticks++;
      }
      x.kind(0, 5, height, 0, 1000 * ticks + 10);
      due("hot from " + height, x.hot(0, 0, 0, 0, 0), 330);
      due("safe from " + height, x.safe(0, 0, 0, 0), 0);
      x.kind(0, 5, height, 0, 1000 * (ticks - 1) + 10);
      due("cold from " + height, x.hot(0, 0, 0, 0, 0), -2);
      due("safe from " + height, x.safe(0, 0, 0, 0), 1);
    }
  }

  // "with Z 5 x HEIGHT instead none does on CROWD"
  private static void halfHotWhenNotAboveZero() {
    LightScript x = new LightScript();
    x.barge(0, 10, 10, 1);
    x.cell(10, 10, 2);
    for (int height = 11; height <= 60; height++) {
      int ticks = 1;
      while (5 * height - 25 * ticks > 0) {
        ticks++;
      }
      x.kind(0, 5, height, 0, 1000 * ticks + 10);
      due("half hot from " + height, x.safe(0, 0, 0, 0), 0);
      x.kind(0, 5, height, 0, 1000 * (ticks - 1) + 10);
      due("half cold from " + height, x.safe(0, 0, 0, 0), 1);
    }
  }

  // "(and is stepped no more)"
  private static void steppedNoMore() {
    LightScript x = new LightScript();
    x.barge(0, 10, 10, 1);
    x.wind(0, 0, 24, -25);
    for (int burn : new int[] {4, 5, 6, 50, 99}) {
      x.kind(0, 5, 10, 0, 1000 * burn + 10);
      // 96 along X and 100 back along Y stay in the cell; a tick more would leave it.
      due("hot, burning " + burn, x.hot(0, 0, 0, 0, 0), 330);
    }
    x.wind(0, 0, 25, -26);
    x.kind(0, 5, 10, 0, 99010);
    due("hot, burning on", x.hot(0, 0, 0, 0, 0), 32 * 9 + 11);
    // So too from half its height: 2 ticks by 50 stay short of the next cell by none, 3 reach it.
    x.wind(1, 0, 49, 0);
    x.kind(1, 5, 10, 0, 3010);
    x.cell(11, 10, 2);
    due("half hot, stepped no more", x.safe(1, 0, 0, 1), 1);
    x.wind(1, 0, 50, 0);
    due("half hot, just there", x.safe(1, 0, 0, 1), 0);
  }

  // "from SPREAD x 10 to either side along X, and along Y"
  private static void spreadOfTheFive() {
    LightScript x = new LightScript();
    x.barge(0, 10, 10, 1);
    int[] spreads = {0, 9, 10, 11, 29, 30, 31, 60};
    int[] greater = {0, 0, 1, 1, 1, 2, 2, 3};
    int[] lesser = {0, 0, 0, 1, 1, 1, 2, 3};
    for (int n = 0; n < spreads.length; n++) {
      x.kind(0, 5, 10, spreads[n], 4010);
      String name = "spread " + spreads[n] + ", ember ";
      due(name + 0, x.hot(0, 0, 0, 0, 0), 330);
      due(name + 1, x.hot(0, 0, 0, 0, 1), 330 + greater[n]);
      due(name + 2, x.hot(0, 0, 0, 0, 2), 330 - lesser[n]);
      due(name + 3, x.hot(0, 0, 0, 0, 3), 330 + 32 * greater[n]);
      due(name + 4, x.hot(0, 0, 0, 0, 4), 330 - 32 * lesser[n]);
    }
  }

  // "X and ANGLE x HEIGHT, its Y"
  private static void anglesMoveXAlone() {
    LightScript x = new LightScript();
    x.barge(0, 16, 16, 1);
    for (int height : new int[] {10, 33, 100, 200, 247}) {
      x.kind(0, 5, height, 60, 99010);
      for (int angle = -4; angle <= 4; angle++) {
        int at = 3300 + angle * height;
        due("at " + angle, x.hot(0, 0, angle, 0, 0), 32 * 16 + at / 200);
        due("at " + angle, x.hot(0, 0, angle, 0, 1), 32 * 16 + (at + 600) / 200);
        due("at " + angle, x.hot(0, 0, angle, 0, 2), 32 * 16 + (at - 600) / 200);
        due("at " + angle, x.hot(0, 0, angle, 0, 3), 32 * 19 + at / 200);
        due("at " + angle, x.hot(0, 0, angle, 0, 4), 32 * 13 + at / 200);
      }
    }
    // Y 3200 is the least of its cell: an ANGLE doesn't move it out of it.
    x.kind(0, 5, 10, 10, 4010);
    x.kind(1, 5, 10, 9, 4010);
    for (int angle = -4; angle <= 4; angle++) {
      due("Y 3200 at " + angle, x.hot(0, 0, angle, 0, 4), 32 * 16 + 16);
      due("Y 3390 at " + angle, x.hot(1, 0, angle, 0, 3), 32 * 16 + 16);
      due("Y 3400 at " + angle, x.hot(0, 0, angle, 0, 3), 32 * 17 + 16);
      due("Y 3210 at " + angle, x.hot(1, 0, angle, 0, 4), 32 * 16 + 16);
    }
  }

  // "It is SAFE in a WIND if all that land HOT do so on WATER, and ... none does on CROWD."
  private static void safeOnEachGround() {
    int[][] places = {{10, 10}, {13, 10}, {7, 10}, {10, 13}, {10, 7}};
    for (int burn = 1; burn <= 5; burn++) {
      for (int[] place : places) {
        LightScript x = new LightScript();
        x.barge(0, 10, 10, 1);
        // Hot from 100 after 4 ticks, from 50 after 2.
        x.kind(0, 5, 10, 60, 1000 * burn + 10);
        due("safe on water", x.safe(0, 0, 0, 0), 1);
        x.cell(place[0], place[1], 1);
        due("safe on land, burning " + burn, x.safe(0, 0, 0, 0), burn >= 4 ? 0 : 1);
        x.cell(place[0], place[1], 2);
        due("safe on crowd, burning " + burn, x.safe(0, 0, 0, 0), burn >= 2 ? 0 : 1);
      }
    }
  }

  // "all beyond is LAND": hot there isn't SAFE, but from half the height it is.
  private static void safeBeyondEachSide() {
    int[][] within = {{3, 10}, {28, 10}, {10, 3}, {10, 28}};
    int[][] beyond = {{2, 10}, {29, 10}, {10, 2}, {10, 29}};
    for (int side = 0; side < 4; side++) {
      LightScript x = new LightScript();
      x.kind(0, 5, 10, 60, 4010);
      x.kind(1, 5, 10, 60, 3010);
      x.barge(0, within[side][0], within[side][1], 1);
      x.barge(1, beyond[side][0], beyond[side][1], 1);
      due("safe within", x.safe(0, 0, 0, 0), 1);
      due("safe beyond", x.safe(0, 1, 0, 0), 0);
      due("safe beyond from half its height", x.safe(1, 1, 0, 0), 1);
    }
  }

  // "G becomes another: the one it was. NONE: not 0 .. 20."
  private static void gapFrom0To20() {
    LightScript x = new LightScript();
    int was = 2;
    for (int g : new int[] {0, 1, 19, 20, 20, 0}) {
      for (int no : new int[] {-1, 21, MIN, MAX}) {
        due("apart(" + no + ")", x.apart(no), -1);
      }
      due("apart(" + g + ")", x.apart(g), was);
      was = g;
    }
    x.begin();
    due("apart after begin", x.apart(2), 2);
  }

  // "No KINDS, BARGES, CUES, READINGS, RULES, FAULTS, HALT, SEEN; all WATER; WINDS 0; G 2"
  private static void beginForgets() {
    for (int y = 0; y < 32; y += 4) {
      LightScript x = new LightScript();
      for (int i = 0; i < 128; i++) {
        x.cell(i % 32, y + i / 32, 1 + i % 2);
      }
      for (int k = 0; k < 12; k++) {
        x.kind(k, 60, 300, 60, 99095);
      }
      for (int s = 0; s < 6; s++) {
        x.barge(s, 31, 31, 40);
      }
      x.apart(20);
      x.halt(0);
      due("begin", x.begin(), 0);
      for (int i = 0; i < 128; i++) {
        due("cell after begin", x.cell(i % 32, y + i / 32, 0), 0);
      }
      for (int k = 0; k < 12; k++) {
        x.barge(0, 5, 5, 1);
        due("kind after begin", x.may(0, k), -1);
      }
      x.kind(0, 5, 50, 0, 1010);
      for (int s = 1; s < 6; s++) {
        due("barge after begin", x.may(s, 0), -1);
      }
      due("apart after begin", x.apart(2), 2);
      due("halt after begin", x.halt(-1), -1);
    }
    for (int turn = 0; turn < 3; turn++) {
      LightScript x = new LightScript();
      x.kind(0, 5, 10, 0, 4010);
      x.barge(0, 5, 5, 9);
      x.tape(0, 1, 10);
      int[] orders = {2, 2, 3, 0, 0, 2};
      int[] rule = {1, 0};
      for (int i = 0; i < 6; i++) {
        x.put(0, i, orders[i]);
      }
      x.tape(1, 1, 3);
      x.put(1, 0, rule[0]);
      due("write", x.write(0), 2);
      due("hold", x.hold(1), 0);
      due("meter", x.meter(1, 0, 0), 1);
      due("seen", x.seen(20, 1), 1);
      due("fault", x.fault(0, 6) + x.fault(1, 5), 0);
      due("put", x.put(0, 10, 1), -13);
      due("begin", x.begin(), 0);
      for (int what = 0; what <= 7; what++) {
        due("count(" + what + ") after begin", x.count(what), 0);
      }
      due("knows after begin", x.knows(0), 0);
      due("fate after begin", x.fate(0), -1);
      due("unseen after begin", x.unseen(), 0);
      due("holdless after begin", x.holdless(), 0);
      x.kind(0, 5, 10, 0, 4010);
      x.barge(0, 5, 5, 9);
      due("write after begin", x.write(0), 2);
      due("no RULE, no FAULTS", x.many(0), 2);
      due("no FAULTS", x.fault(0, 0) + x.fault(1, 0), 0);
      due("no SEEN", x.duds(), 2);
      due("hold after begin", x.hold(1), 0);
      due("meter after begin", x.meter(1, 0, 0), 1);
      due("seen after begin", x.seen(20, 1), 1);
    }
  }
}
