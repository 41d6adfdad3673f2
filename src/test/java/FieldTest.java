// Promises 1 to 10: a new object, begin, the field, kinds, barges, winds, may, safe, hot.
public final class FieldTest {
  private static int wrong = 0;

  private static void due(String call, long got, long want) {
    if (got != want) {
      wrong++;
      System.out.println(call + " answered " + got + ", due is " + want);
    }
  }

  public static void main(String[] args) {
    newObject();
    begin();
    cell();
    kindLimits();
    kindToldAnew();
    barge();
    wind();
    apart();
    may();
    mayAtTheRim();
    safeAndHotRefused();
    hotOfEachEmber();
    hotByAngle();
    hotByBurn();
    hotBeyond();
    hotInWinds();
    hotFollowsWhatIsTold();
    safeOnGround();
    safeFromHalfHeight();
    safeFromOnHigh();
    System.out.println(wrong == 0 ? "all answers are as due" : wrong + " answers are not as due");
    if (wrong != 0) {
      System.exit(1);
    }
  }

  private static void newObject() {
    LightScript x = new LightScript();
    for (int what = 0; what < 8; what++) {
      due("new count(" + what + ")", x.count(what), 0);
    }
    for (int d = 0; d < 6; d++) {
      due("new clear(" + d + ")", x.clear(d), 0);
    }
    due("new apart", x.apart(2), 2);
    due("new halt", x.halt(-1), -1);
    due("new knows", x.knows(20000), 0);
    due("new may", x.may(0, 0), -1);
    due("new safe", x.safe(0, 0, 0, 0), -1);
    due("new hot", x.hot(0, 0, 0, 0, 0), -1);
    due("new fate", x.fate(0), -1);
    due("new order", x.order(0), -1);
    due("new duds", x.duds(), 0);
    due("new strange", x.strange(), 0);
    due("new unseen", x.unseen(), 0);
    due("new holdless", x.holdless(), 0);
    due("new lay", x.lay(4), 0);
    due("new write", x.write(0), -11);
    for (int i = 0; i < 32; i++) {
      due("new cell", x.cell(i, 31 - i, 0), 0);
    }
    x.kind(0, 5, 10, 0, 4010);
    x.barge(0, 10, 10, 1);
    for (int w = 0; w < 4; w++) {
      due("new wind " + w, x.hot(0, 0, 0, w, 0), 330);
    }
  }

  private static void begin() {
    LightScript x = new LightScript();
    x.cell(31, 31, 2);
    x.cell(10, 10, 1);
    x.kind(0, 5, 10, 0, 4010);
    x.barge(0, 10, 10, 3);
    x.wind(3, 0, 50, 50);
    x.apart(7);
    x.tape(0, 1, 8);
    x.put(0, 0, 2);
    x.put(0, 1, 5);
    x.put(0, 2, 1);
    due("write", x.write(0), 1);
    x.keep(2);
    x.tape(1, 1, 3);
    x.put(1, 0, 4);
    due("hold", x.hold(1), 0);
    x.fault(0, 6);
    x.halt(30);
    x.meter(3, 0, 0);
    x.seen(10, 1);
    due("put", x.put(0, 8, 1), -13);
    due("count(7)", x.count(7), 1);
    due("begin", x.begin(), 0);
    for (int what = 0; what < 8; what++) {
      due("begun count(" + what + ")", x.count(what), 0);
    }
    due("begun cell", x.cell(31, 31, 0), 0);
    due("begun cell", x.cell(10, 10, 0), 0);
    due("begun apart", x.apart(2), 2);
    due("begun halt", x.halt(-1), -1);
    due("begun knows", x.knows(30), 0);
    due("begun may", x.may(0, 0), -1);
    due("begun put", x.put(0, 8, 1), -13);
    due("begun count(7)", x.count(7), 1);
    due("begun clear(1)", x.clear(1), 1);
    due("begun at", x.at(0, 1), 5);
    due("begun back", x.back(2), -3);
    x.kind(0, 5, 10, 0, 4010);
    due("begun back", x.back(2), -3);
    x.barge(0, 10, 10, 3);
    due("begun hot", x.hot(0, 0, 0, 3, 0), 330);
    due("begun back", x.back(2), 1);
    due("begun fate", x.fate(0), 0);
    due("begun fault", x.fault(0, 0), 0);
    due("begin again", x.begin(), 0);
    due("begun fault", x.fault(0, 0), -1);
  }

  private static void cell() {
    LightScript x = new LightScript();
    due("cell", x.cell(3, 4, 1), 0);
    due("cell", x.cell(3, 4, 2), 1);
    due("cell", x.cell(3, 4, 3), -1);
    due("cell", x.cell(3, 4, -1), -1);
    due("cell", x.cell(3, 4, 0), 2);
    due("cell", x.cell(3, 4, 0), 0);
    due("cell", x.cell(4, 3, 1), 0);
    due("cell", x.cell(3, 4, 1), 0);
    due("cell", x.cell(0, 0, 1), 0);
    due("cell", x.cell(31, 31, 1), 0);
    due("cell", x.cell(0, 31, 2), 0);
    due("cell", x.cell(31, 0, 0), 0);
    due("cell", x.cell(-1, 0, 0), -1);
    due("cell", x.cell(0, -1, 0), -1);
    due("cell", x.cell(32, 0, 0), -1);
    due("cell", x.cell(0, 32, 0), -1);
    due("cell", x.cell(Integer.MIN_VALUE, Integer.MAX_VALUE, 0), -1);
  }

  private static void kindLimits() {
    LightScript x = new LightScript();
    due("kind least", x.kind(0, 1, 10, 0, 1010), 0);
    due("kind most", x.kind(11, 60, 300, 60, 99095), 11);
    due("count", x.count(0), 2);
    due("kind k", x.kind(-1, 1, 10, 0, 1010), -1);
    due("kind k", x.kind(12, 1, 10, 0, 1010), -1);
    due("kind lift", x.kind(1, 0, 10, 0, 1010), -1);
    due("kind lift", x.kind(1, 61, 10, 0, 1010), -1);
    due("kind height", x.kind(1, 1, 9, 0, 1010), -1);
    due("kind height", x.kind(1, 1, 301, 0, 1010), -1);
    due("kind spread", x.kind(1, 1, 10, -1, 1010), -1);
    due("kind spread", x.kind(1, 1, 10, 61, 1010), -1);
    due("kind burn", x.kind(1, 1, 10, 0, 10), -1);
    due("kind burn", x.kind(1, 1, 10, 0, 100010), -1);
    due("kind colour", x.kind(1, 1, 10, 0, 1000), -1);
    due("kind colour", x.kind(1, 1, 10, 0, 1005), -1);
    due("kind colour", x.kind(1, 1, 10, 0, 1100), -1);
    due("kind late", x.kind(1, 1, 10, 0, 1016), -1);
    due("kind late", x.kind(1, 1, 10, 0, 1019), -1);
    due("kind rest", x.kind(1, 1, 10, 0, -1010), -1);
    due("kind rest", x.kind(1, 1, 10, 0, Integer.MIN_VALUE), -1);
    due("kind rest", x.kind(1, 1, 10, 0, Integer.MAX_VALUE), -1);
    due("count", x.count(0), 2);
    due("kind late", x.kind(1, 1, 10, 0, 1015), 1);
    due("count", x.count(0), 3);
    due("kind anew", x.kind(1, 1, 10, 0, 1095), 1);
    due("count", x.count(0), 3);
  }

  private static void kindToldAnew() {
    LightScript x = new LightScript();
    x.kind(0, 5, 50, 0, 1010);
    x.kind(1, 5, 50, 0, 1010);
    x.tape(0, 1, 8);
    x.put(0, 0, 2);
    x.put(0, 1, 2);
    x.put(0, 2, 1);
    x.put(0, 4, -1);
    due("write", x.write(0), 1);
    due("kind early", x.kind(0, 21, 80, 0, 1010), -5);
    due("kind wrong and early", x.kind(0, 21, 9, 0, 1010), -1);
    due("cue fire", x.cue(0, 4), 15);
    due("kind other", x.kind(1, 21, 50, 0, 1010), 1);
    due("kind anew", x.kind(0, 20, 50, 0, 1010), 0);
    due("cue fire", x.cue(0, 4), 0);
    x.barge(0, 10, 10, 1);
    x.cell(10, 12, 2);
    due("what is refused changes nothing", x.may(0, 0), 1);
    due("kind anew", x.kind(0, 20, 80, 0, 1010), 0);
    due("a greater reach", x.may(0, 0), 0);
  }

  private static void barge() {
    LightScript x = new LightScript();
    due("barge least", x.barge(0, 0, 0, 1), 0);
    due("barge most", x.barge(5, 31, 31, 40), 5);
    due("barge s", x.barge(-1, 0, 0, 1), -1);
    due("barge s", x.barge(6, 0, 0, 1), -1);
    due("barge x", x.barge(1, -1, 0, 1), -1);
    due("barge x", x.barge(1, 32, 0, 1), -1);
    due("barge y", x.barge(1, 0, -1, 1), -1);
    due("barge y", x.barge(1, 0, 32, 1), -1);
    due("barge channels", x.barge(1, 0, 0, 0), -1);
    due("barge channels", x.barge(1, 0, 0, 41), -1);
    due("count", x.count(1), 2);
    x.kind(0, 1, 10, 0, 4010);
    due("hot", x.hot(0, 5, 0, 0, 0), 1023);
    due("barge anew", x.barge(5, 2, 1, 40), 5);
    due("hot", x.hot(0, 5, 0, 0, 0), 34);
    due("count", x.count(1), 2);
    due("may", x.may(1, 0), -1);
  }

  private static void wind() {
    LightScript x = new LightScript();
    x.kind(0, 1, 10, 0, 4010);
    x.barge(0, 10, 10, 1);
    due("wind", x.wind(0, 0, 50, -50), 0);
    due("hot", x.hot(0, 0, 0, 0, 0), 32 * 9 + 11);
    due("hot other wind", x.hot(0, 0, 0, 1, 0), 330);
    due("wind w", x.wind(-1, 0, 0, 0), -1);
    due("wind w", x.wind(4, 0, 0, 0), -1);
    due("wind layer", x.wind(0, -1, 0, 0), -1);
    due("wind layer", x.wind(0, 5, 0, 0), -1);
    due("wind dx", x.wind(0, 0, 51, 0), -1);
    due("wind dx", x.wind(0, 0, -51, 0), -1);
    due("wind dy", x.wind(0, 0, 0, 51), -1);
    due("wind dy", x.wind(0, 0, 0, -51), -1);
    due("hot", x.hot(0, 0, 0, 0, 0), 32 * 9 + 11);
    due("wind", x.wind(3, 4, -50, 50), 0);
    due("wind", x.wind(3, 0, -50, 50), 0);
    due("hot", x.hot(0, 0, 0, 3, 0), 32 * 11 + 9);
    due("wind", x.wind(0, 1, 50, 50), 0);
    due("hot other layer", x.hot(0, 0, 0, 0, 0), 32 * 9 + 11);
    due("wind", x.wind(0, 0, 0, 0), 0);
    due("hot", x.hot(0, 0, 0, 0, 0), 330);
  }

  private static void apart() {
    LightScript x = new LightScript();
    due("apart", x.apart(20), 2);
    due("apart", x.apart(21), -1);
    due("apart", x.apart(-1), -1);
    due("apart", x.apart(0), 20);
    due("apart", x.apart(0), 0);
  }

  private static void may() {
    LightScript x = new LightScript();
    x.kind(0, 1, 80, 0, 1010);
    x.kind(1, 1, 79, 0, 1010);
    x.kind(2, 1, 119, 0, 1010);
    x.kind(3, 1, 300, 0, 1010);
    x.barge(0, 10, 10, 1);
    due("may, no crowd", x.may(0, 3), 1);
    x.cell(11, 10, 1);
    due("may, land", x.may(0, 3), 1);
    x.cell(12, 12, 2);
    due("may, just in reach", x.may(0, 0), 0);
    due("may, just out of reach", x.may(0, 1), 1);
    x.cell(12, 12, 0);
    x.cell(8, 8, 2);
    due("may, just in reach", x.may(0, 0), 0);
    x.cell(8, 8, 0);
    x.cell(12, 13, 2);
    due("may, along X alone", x.may(0, 0), 1);
    due("may, along X alone", x.may(0, 2), 1);
    x.cell(12, 13, 0);
    x.cell(13, 10, 2);
    due("may, along Y alone", x.may(0, 0), 1);
    due("may, along Y alone", x.may(0, 2), 1);
    x.cell(13, 10, 0);
    x.cell(17, 3, 2);
    due("may, seven cells", x.may(0, 3), 0);
    x.cell(17, 3, 0);
    x.cell(18, 10, 2);
    due("may, eight cells", x.may(0, 3), 1);
    x.cell(10, 10, 2);
    due("may, upon the barge", x.may(0, 1), 0);
    due("may, no barge", x.may(1, 0), -1);
    due("may, no barge", x.may(-1, 0), -1);
    due("may, no barge", x.may(6, 0), -1);
    due("may, no kind", x.may(0, 4), -1);
    due("may, no kind", x.may(0, -1), -1);
    due("may, no kind", x.may(0, 12), -1);
  }

  private static void mayAtTheRim() {
    LightScript x = new LightScript();
    x.kind(0, 1, 300, 0, 1010);
    x.barge(0, 0, 0, 1);
    x.barge(1, 31, 31, 1);
    x.barge(2, 31, 0, 1);
    due("may, beyond is LAND", x.may(0, 0), 1);
    due("may, beyond is LAND", x.may(1, 0), 1);
    x.cell(0, 7, 2);
    due("may", x.may(0, 0), 0);
    due("may", x.may(1, 0), 1);
    due("may", x.may(2, 0), 1);
    x.cell(31, 24, 2);
    due("may", x.may(1, 0), 0);
    due("may", x.may(2, 0), 1);
    int[][] corners = {{0, 0}, {31, 31}, {31, 0}, {0, 31}};
    for (int[] corner : corners) {
      LightScript y = new LightScript();
      y.kind(0, 1, 40, 0, 1010);
      y.barge(0, corner[0] == 0 ? 1 : 30, corner[1] == 0 ? 1 : 30, 1);
      due("may", y.may(0, 0), 1);
      y.cell(corner[0], corner[1], 2);
      due("may, a crowd in a corner", y.may(0, 0), 0);
    }
  }

  private static void safeAndHotRefused() {
    LightScript x = new LightScript();
    x.kind(2, 1, 10, 0, 4010);
    x.barge(3, 10, 10, 1);
    due("safe", x.safe(2, 3, 4, 3), 1);
    due("safe", x.safe(2, 3, -4, 0), 1);
    due("safe k", x.safe(1, 3, 0, 0), -1);
    due("safe k", x.safe(-1, 3, 0, 0), -1);
    due("safe k", x.safe(12, 3, 0, 0), -1);
    due("safe s", x.safe(2, 2, 0, 0), -1);
    due("safe s", x.safe(2, -1, 0, 0), -1);
    due("safe s", x.safe(2, 6, 0, 0), -1);
    due("safe angle", x.safe(2, 3, 5, 0), -1);
    due("safe angle", x.safe(2, 3, -5, 0), -1);
    due("safe w", x.safe(2, 3, 0, -1), -1);
    due("safe w", x.safe(2, 3, 0, 4), -1);
    due("hot", x.hot(2, 3, 4, 3, 4), 330);
    due("hot k", x.hot(1, 3, 0, 0, 0), -1);
    due("hot s", x.hot(2, 2, 0, 0, 0), -1);
    due("hot angle", x.hot(2, 3, 5, 0, 0), -1);
    due("hot angle", x.hot(2, 3, -5, 0, 0), -1);
    due("hot w", x.hot(2, 3, 0, 4, 0), -1);
    due("hot i", x.hot(2, 3, 0, 0, -1), -1);
    due("hot i", x.hot(2, 3, 0, 0, 5), -1);
  }

  private static void hotOfEachEmber() {
    LightScript x = new LightScript();
    x.kind(0, 1, 10, 60, 4010);
    x.barge(0, 10, 12, 1);
    due("hot middle", x.hot(0, 0, 0, 0, 0), 32 * 12 + 10);
    due("hot to greater X", x.hot(0, 0, 0, 0, 1), 32 * 12 + 13);
    due("hot to lesser X", x.hot(0, 0, 0, 0, 2), 32 * 12 + 7);
    due("hot to greater Y", x.hot(0, 0, 0, 0, 3), 32 * 15 + 10);
    due("hot to lesser Y", x.hot(0, 0, 0, 0, 4), 32 * 9 + 10);
    // Its middle is 100 from either side of its cell: 9 metres stay in it, 10 reach the next.
    x.kind(0, 1, 10, 9, 4010);
    due("hot within", x.hot(0, 0, 0, 0, 1), 32 * 12 + 10);
    due("hot within", x.hot(0, 0, 0, 0, 4), 32 * 12 + 10);
    x.kind(0, 1, 10, 10, 4010);
    due("hot at the next cell's side", x.hot(0, 0, 0, 0, 1), 32 * 12 + 11);
    due("hot at its cell's own side", x.hot(0, 0, 0, 0, 2), 32 * 12 + 10);
  }

  private static void hotByAngle() {
    LightScript x = new LightScript();
    x.kind(0, 1, 50, 0, 20010);
    x.barge(0, 10, 10, 1);
    due("hot", x.hot(0, 0, 0, 0, 0), 330);
    due("hot", x.hot(0, 0, 4, 0, 0), 331);
    due("hot", x.hot(0, 0, 1, 0, 0), 330);
    due("hot", x.hot(0, 0, 2, 0, 0), 331);
    due("hot", x.hot(0, 0, -2, 0, 0), 330);
    due("hot", x.hot(0, 0, -3, 0, 0), 329);
  }

  private static void hotByBurn() {
    LightScript x = new LightScript();
    x.barge(0, 10, 10, 1);
    x.kind(0, 1, 10, 0, 3010);
    due("cold: 25 above", x.hot(0, 0, 0, 0, 0), -2);
    x.kind(0, 1, 10, 0, 4010);
    due("hot at 0", x.hot(0, 0, 0, 0, 0), 330);
    x.kind(0, 1, 11, 0, 4010);
    due("cold: 10 above", x.hot(0, 0, 0, 0, 0), -2);
    x.kind(0, 1, 11, 0, 5010);
    due("hot below 0", x.hot(0, 0, 0, 0, 0), 330);
    x.kind(0, 1, 247, 0, 99010);
    due("hot at the last tick", x.hot(0, 0, 0, 0, 0), 330);
    x.kind(0, 1, 248, 0, 99010);
    due("cold, high up", x.hot(0, 0, 0, 0, 0), -2);
    x.kind(0, 1, 300, 60, 99010);
    due("cold, higher", x.hot(0, 0, 0, 0, 3), -2);
  }

  private static void hotBeyond() {
    LightScript x = new LightScript();
    x.kind(0, 1, 10, 60, 4010);
    x.barge(0, 0, 0, 1);
    x.barge(1, 31, 31, 1);
    due("hot", x.hot(0, 0, 0, 0, 0), 0);
    due("hot", x.hot(0, 0, 0, 0, 1), 3);
    due("hot beyond", x.hot(0, 0, 0, 0, 2), -3);
    due("hot", x.hot(0, 0, 0, 0, 3), 96);
    due("hot beyond", x.hot(0, 0, 0, 0, 4), -3);
    due("hot", x.hot(0, 1, 0, 0, 0), 1023);
    due("hot beyond", x.hot(0, 1, 0, 0, 1), -3);
    due("hot", x.hot(0, 1, 0, 0, 2), 1020);
    due("hot beyond", x.hot(0, 1, 0, 0, 3), -3);
    // 4 beyond the side is in cell -1, not in cell 0.
    x.kind(1, 1, 26, 0, 11010);
    due("hot just beyond", x.hot(1, 0, -4, 0, 0), -3);
    x.wind(0, 0, 0, -10);
    due("hot just beyond in Y", x.hot(1, 0, 0, 0, 0), -3);
    x.wind(0, 0, 0, -9);
    due("hot just within in Y", x.hot(1, 0, 0, 0, 0), 0);
    x.kind(1, 1, 25, 0, 10010);
    due("hot at the side", x.hot(1, 0, -4, 0, 0), 0);
    due("hot just beyond", x.hot(1, 1, 4, 0, 0), -3);
    due("hot just within", x.hot(1, 1, 3, 0, 0), 1023);
  }

  private static void hotInWinds() {
    LightScript x = new LightScript();
    // From 600: 5 ticks in layer 1 (600 .. 500), 19 in layer 0.
    x.kind(0, 1, 60, 0, 24010);
    x.barge(0, 10, 10, 1);
    x.wind(1, 1, 40, 0);
    x.wind(1, 0, 0, -50);
    due("hot in two layers", x.hot(0, 0, 0, 1, 0), 32 * 5 + 11);
    x.wind(1, 0, -5, 0);
    due("hot, 200 to and 95 fro", x.hot(0, 0, 0, 1, 0), 32 * 10 + 11);
    x.wind(1, 0, -6, 0);
    due("hot, 200 to and 114 fro", x.hot(0, 0, 0, 1, 0), 330);
    // 9 ticks of 11 end just within its cell, those of -11 and one more in the next.
    x.kind(2, 1, 22, 0, 9010);
    x.wind(3, 0, 11, 11);
    due("hot, 99 off", x.hot(2, 0, 0, 3, 0), 330);
    x.wind(3, 0, -11, -11);
    due("hot, 99 off", x.hot(2, 0, 0, 3, 0), 330);
    x.wind(3, 0, -12, 12);
    due("hot, 108 off", x.hot(2, 0, 0, 3, 0), 32 * 11 + 9);
    // From 2470: 19 ticks in layer 4, 20 in 3, 20 in 2, 20 in 1, 20 in 0.
    x.kind(1, 1, 247, 0, 99010);
    x.wind(2, 4, 6, 0);
    due("hot by layer 4", x.hot(1, 0, 0, 2, 0), 331);
    x.wind(2, 4, 5, 0);
    due("hot by layer 4", x.hot(1, 0, 0, 2, 0), 330);
    x.wind(2, 4, 0, 0);
    for (int layer = 0; layer < 4; layer++) {
      x.wind(2, layer, 0, 5);
      due("hot by layer " + layer, x.hot(1, 0, 0, 2, 0), 330 + 32);
      x.wind(2, layer, 0, 4);
      due("hot by layer " + layer, x.hot(1, 0, 0, 2, 0), 330);
      x.wind(2, layer, 0, 0);
    }
  }

  private static void hotFollowsWhatIsTold() {
    LightScript x = new LightScript();
    x.wind(1, 0, 50, 0);
    x.kind(0, 1, 10, 0, 4010);
    x.barge(0, 10, 10, 1);
    due("a kind told after the wind", x.hot(0, 0, 0, 1, 0), 331);
    x.kind(0, 1, 20, 0, 8010);
    due("a kind told anew", x.hot(0, 0, 0, 1, 0), 332);
    x.begin();
    x.kind(0, 1, 20, 0, 8010);
    x.barge(0, 10, 10, 1);
    due("no wind after begin", x.hot(0, 0, 0, 1, 0), 330);
    x.wind(1, 0, 0, 50);
    due("a wind told anew", x.hot(0, 0, 0, 1, 0), 394);
  }

  private static void safeOnGround() {
    LightScript x = new LightScript();
    x.kind(0, 1, 10, 60, 4010);
    x.barge(0, 10, 10, 1);
    due("safe", x.safe(0, 0, 0, 0), 1);
    int[][] places = {{10, 10}, {13, 10}, {7, 10}, {10, 13}, {10, 7}};
    for (int[] place : places) {
      x.cell(place[0], place[1], 1);
      due("safe, on land", x.safe(0, 0, 0, 0), 0);
      x.cell(place[0], place[1], 2);
      due("safe, on crowd", x.safe(0, 0, 0, 0), 0);
      x.cell(place[0], place[1], 0);
      due("safe", x.safe(0, 0, 0, 0), 1);
    }
    x.cell(11, 10, 1);
    due("safe beside land", x.safe(0, 0, 0, 0), 1);
    x.barge(1, 1, 10, 1);
    due("safe, beyond is land", x.safe(0, 1, 0, 0), 0);
    x.cell(10, 10, 1);
    x.wind(2, 0, 50, 0);
    due("safe, blown off", x.safe(0, 0, 0, 2), 0);
    x.cell(11, 10, 0);
    due("safe, blown off", x.safe(0, 0, 0, 2), 1);
    due("safe, not blown off", x.safe(0, 0, 0, 0), 0);
    x.kind(1, 1, 10, 0, 3010);
    x.cell(10, 10, 2);
    due("safe, from half height", x.safe(1, 0, 0, 0), 0);
    x.cell(10, 10, 1);
    due("safe, cold over land", x.safe(1, 0, 0, 0), 1);
  }

  private static void safeFromHalfHeight() {
    LightScript x = new LightScript();
    // From 100 its embers are cold; from 50 they land after 2 ticks.
    x.kind(0, 1, 10, 60, 2010);
    x.barge(0, 10, 10, 1);
    int[][] places = {{10, 10}, {13, 10}, {7, 10}, {10, 13}, {10, 7}};
    for (int[] place : places) {
      x.cell(place[0], place[1], 1);
      due("safe, half on land", x.safe(0, 0, 0, 0), 1);
      x.cell(place[0], place[1], 2);
      due("safe, half on crowd", x.safe(0, 0, 0, 0), 0);
      x.cell(place[0], place[1], 0);
    }
    x.barge(1, 0, 0, 1);
    due("safe, half beyond", x.safe(0, 1, 0, 0), 1);
    x.kind(0, 1, 10, 60, 1010);
    x.cell(10, 10, 2);
    due("safe, half cold", x.safe(0, 0, 0, 0), 1);
    // From 600 it drifts 24 ticks, from 300 only 12: 600 and 300 in X.
    x.kind(1, 1, 60, 0, 24010);
    x.barge(2, 20, 20, 1);
    x.wind(1, 0, 25, 0);
    x.wind(1, 1, 25, 0);
    due("hot", x.hot(1, 2, 0, 1, 0), 32 * 20 + 23);
    x.cell(22, 20, 2);
    due("safe, half in wind", x.safe(1, 2, 0, 1), 0);
    x.cell(22, 20, 1);
    due("safe, half in wind", x.safe(1, 2, 0, 1), 1);
    x.cell(23, 20, 1);
    due("safe, whole in wind", x.safe(1, 2, 0, 1), 0);
    // The ANGLE is that of the whole height.
    x.kind(2, 1, 50, 0, 10010);
    x.barge(3, 5, 25, 1);
    x.cell(6, 25, 2);
    due("safe, half at an angle", x.safe(2, 3, 4, 0), 0);
    due("safe, half at an angle", x.safe(2, 3, 1, 0), 1);
  }

  private static void safeFromOnHigh() {
    LightScript x = new LightScript();
    x.kind(0, 1, 300, 0, 99010);
    x.barge(0, 10, 10, 1);
    x.cell(10, 10, 2);
    due("safe, from 1500 on crowd", x.safe(0, 0, 0, 0), 0);
    x.cell(10, 10, 1);
    due("safe, from 1500 on land", x.safe(0, 0, 0, 0), 1);
    x.kind(0, 1, 300, 0, 59010);
    x.cell(10, 10, 2);
    due("safe, from 1500 cold", x.safe(0, 0, 0, 0), 1);
  }
}
