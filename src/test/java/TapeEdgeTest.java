// The boundaries that part VI and promises 32 to 40 name, each on both its sides.
public final class TapeEdgeTest {
  private static final long IAE = Long.MIN_VALUE + 1;
  private static final long ISE = Long.MIN_VALUE + 2;
  private static final int MIN = Integer.MIN_VALUE;
  private static final int MAX = Integer.MAX_VALUE;
  private static final int[] NO_TAPES = {-1, 6, MIN, MAX};
  private static int wrong = 0;

  private static void due(String call, long got, long want) {
    if (got != want) {
      wrong++;
      System.out.println(call + " answered " + got + ", due is " + want);
    }
  }

  private static long at(LightScript x, int d, int i) {
    try {
      return x.at(d, i);
    } catch (IllegalArgumentException e) {
      return IAE;
    } catch (IllegalStateException e) {
      return ISE;
    }
  }

  private static void row(LightScript x, int d, int sort, long... row) {
    x.tape(d, sort, row.length);
    for (int i = 0; i < row.length; i++) {
      x.put(d, i, row[i]);
    }
  }

  private static void dueRow(String name, LightScript x, int d, long... want) {
    for (int i = 0; i < want.length; i++) {
      due(name + ": at(" + d + ", " + i + ")", at(x, d, i), want[i]);
    }
    due(name + ": at(" + d + ", its end)", at(x, d, want.length), ISE);
  }

  private static LightScript desk() {
    LightScript x = new LightScript();
    x.kind(0, 5, 50, 0, 1010);
    x.kind(1, 8, 50, 0, 1020);
    x.barge(0, 10, 10, 40);
    x.barge(1, 20, 20, 40);
    return x;
  }

  public static void main(String[] args) {
    tapesFrom0To5();
    sortsFrom1To4();
    sizesFrom0To100();
    sizeBelow0();
    allZeroAnew();
    eachTapeItsOwn();
    putPlaces();
    putNarrowed();
    putSorts();
    atPlaces();
    clearTells();
    copyTapes();
    copySorts();
    copyPlaces();
    copyAsTheyWere();
    keepAllCues();
    keptAreCopies();
    backRefused();
    backUnable();
    backEarly();
    tossOfOpenOnes();
    countsOf0To7();
    countsSinceBegin();
    tapesStay();
    System.out.println(wrong == 0 ? "all answers are as due" : wrong + " answers are not as due");
    if (wrong != 0) {
      System.exit(1);
    }
  }

  // "TAPES 0 .. 5 each hold nothing (at first)", "NONE: no such TAPE"
  private static void tapesFrom0To5() {
    LightScript x = desk();
    for (int d : NO_TAPES) {
      due("tape(" + d + ")", x.tape(d, 1, 1), -1);
      due("keep(" + d + ")", x.keep(d), -1);
      due("back(" + d + ")", x.back(d), -1);
      due("toss(" + d + ")", x.toss(d), -1);
      due("clear(" + d + ")", x.clear(d), -1);
      due("put(" + d + ")", x.put(d, 0, 1), -1);
      due("at(" + d + ")", at(x, d, 0), IAE);
      due("write(" + d + ")", x.write(d), -1);
      due("hold(" + d + ")", x.hold(d), -1);
      due("proof(" + d + ")", x.proof(d, 0), -1);
      for (int e = 0; e < 6; e++) {
        due("copy(" + d + ")", x.copy(d, 0, e, 0, 0), -1);
        due("copy to " + d, x.copy(e, 0, d, 0, 0), -1);
      }
      due("copy(" + d + ")", x.copy(d, 0, d, 0, 0), -1);
    }
    due("count(7)", x.count(7), 0);
    for (int d = 0; d < 6; d++) {
      due("back nothing", x.back(d), -11);
      due("toss nothing", x.toss(d), -11);
      due("clear nothing", x.clear(d), 0);
      due("put into nothing", x.put(d, 0, 1), -11);
      due("at of nothing", at(x, d, 0), ISE);
      due("copy nothing", x.copy(d, 0, d, 0, 0), -11);
      due("tape", x.tape(d, 1, 1), 1);
      due("put", x.put(d, 0, 7), 1);
      due("at", at(x, d, 0), 7);
      due("copy", x.copy(d, 0, d, 0, 1), 1);
      due("clear", x.clear(d), 1);
      due("keep", x.keep(d), 0);
      due("toss", x.toss(d), -15);
      due("back", x.back(d), 0);
      due("clear", x.clear(d), 5);
      due("clear nothing", x.clear(d), 0);
    }
    due("count(7)", x.count(7), 6 * 5);
  }

  // "of a sort (1 .. 4)"
  private static void sortsFrom1To4() {
    LightScript x = desk();
    for (int sort : new int[] {-1, 0, 5, 6, MIN, MAX}) {
      due("tape of sort " + sort, x.tape(0, sort, 1), -1);
      due("tape of sort " + sort, x.tape(0, sort, -1), -1);
      due("tape of sort " + sort, x.tape(0, sort, 101), -1);
    }
    due("clear", x.clear(0), 0);
    for (int sort = 1; sort <= 4; sort++) {
      due("tape of sort " + sort, x.tape(0, sort, sort), sort);
      due("tape of sort 5", x.tape(0, 5, 1), -1);
      due("tape of sort 0", x.tape(0, 0, 1), -1);
      due("at", at(x, 0, sort - 1), 0);
      due("at", at(x, 0, sort), ISE);
      due("clear", x.clear(0), sort);
    }
    due("count(7)", x.count(7), 0);
  }

  // "n above 100"
  private static void sizesFrom0To100() {
    for (int sort = 1; sort <= 4; sort++) {
      LightScript x = desk();
      for (int n : new int[] {101, 102, 1000, MAX}) {
        due("tape of " + n, x.tape(0, sort, n), -1);
      }
      due("clear", x.clear(0), 0);
      for (int n : new int[] {0, 1, 2, 99, 100}) {
        due("tape of " + n, x.tape(0, sort, n), n);
        if (n > 0) {
          due("the first place", x.put(0, 0, n), 1);
          due("the last place", x.put(0, n - 1, n), 1);
          due("the last place", at(x, 0, n - 1), n);
        }
        due("behind the last place", x.put(0, n, 9), -13);
        due("behind the last place", at(x, 0, n), ISE);
      }
      due("tape of 101", x.tape(0, sort, 101), -1);
      due("the row is as it was", at(x, 0, 99), 100);
    }
  }

  // "SIZE (-14): a size below 0"
  private static void sizeBelow0() {
    LightScript x = desk();
    int refusals = 0;
    for (int sort = 1; sort <= 4; sort++) {
      row(x, sort, sort, 7, 8);
      for (int n : new int[] {-1, -2, -100, MIN}) {
        due("tape of " + n, x.tape(sort, sort, n), -14);
        refusals++;
        due("count(7)", x.count(7), refusals);
        due("NONE goes ahead of SIZE", x.tape(6, sort, n), -1);
        due("NONE goes ahead of SIZE", x.tape(sort, 5, n), -1);
        due("NONE goes ahead of SIZE", x.tape(sort, 0, n), -1);
        due("count(7)", x.count(7), refusals);
      }
      dueRow("as it was", x, sort, 7, 8);
    }
    due("tape of -1 where nothing is", x.tape(5, 1, -1), -14);
    due("nothing is there", x.clear(5), 0);
    due("tape of 0", x.tape(5, 1, 0), 0);
    due("a row is there", x.clear(5), 1);
  }

  // "gets a row of n elements, all 0"
  private static void allZeroAnew() {
    LightScript x = desk();
    for (int sort = 1; sort <= 4; sort++) {
      x.tape(0, sort, 10);
      for (int i = 0; i < 10; i++) {
        x.put(0, i, -1 - i);
      }
      x.tape(0, 5 - sort, 3);
      dueRow("a shorter one", x, 0, 0, 0, 0);
      x.tape(0, sort, 10);
      dueRow("as long as before", x, 0, 0, 0, 0, 0, 0, 0, 0, 0, 0, 0);
    }
    x.put(0, 9, 5);
    x.clear(0);
    x.tape(0, 4, 10);
    due("anew after clear", at(x, 0, 9), 0);
    x.put(0, 9, 5);
    x.keep(0);
    x.tape(0, 4, 10);
    due("anew after a SHOW", at(x, 0, 9), 0);
  }

  private static void eachTapeItsOwn() {
    LightScript x = desk();
    for (int d = 0; d < 6; d++) {
      row(x, d, d % 4 + 1, d, 10 + d);
    }
    for (int d = 0; d < 6; d++) {
      dueRow("TAPE " + d, x, d, d, 10 + d);
    }
    x.clear(2);
    x.keep(4);
    for (int d = 0; d < 6; d++) {
      due("TAPE " + d, at(x, d, 1), d == 2 || d == 4 ? ISE : 10 + d);
    }
    due("clear", x.clear(4), 5);
    due("clear", x.clear(2), 0);
    due("clear", x.clear(5), 2);
  }

  // "PLACE (-13): a row has no such place"
  private static void putPlaces() {
    LightScript x = desk();
    for (int sort = 1; sort <= 4; sort++) {
      row(x, 0, sort, 1, 2, 3);
      for (int i : new int[] {-1, 3, 99, 100, MIN, MAX}) {
        due("put at " + i, x.put(0, i, 9), -13);
      }
      dueRow("as it was", x, 0, 1, 2, 3);
      for (int i = 0; i < 3; i++) {
        due("put at " + i, x.put(0, i, 9), 1);
      }
      dueRow("put", x, 0, 9, 9, 9);
    }
    x.tape(0, 1, 0);
    due("put in a row of none", x.put(0, 0, 1), -13);
    due("put in a row of none", x.put(0, -1, 1), -13);
    due("count(7)", x.count(7), 4 * 6 + 2);
  }

  // "becomes v, narrowed to its sort"
  private static void putNarrowed() {
    LightScript x = desk();
    long[][] ends = {{-128, 127}, {-32768, 32767}, {MIN, MAX}, {Long.MIN_VALUE, Long.MAX_VALUE}};
    for (int sort = 1; sort <= 4; sort++) {
      x.tape(sort, sort, 3);
      long least = ends[sort - 1][0];
      long most = ends[sort - 1][1];
      long[][] pairs = {{least, least}, {most, most}, {least - 1, most}, {most + 1, least}, {-1, -1},
          {2 * most + 2, 0}, {2 * most + 1, -1}, {2 * least, 0}};
      for (long[] pair : pairs) {
        due("put", x.put(sort, 1, pair[0]), 1);
        due(pair[0] + " in sort " + sort, at(x, sort, 1), pair[1]);
        due("beside it", at(x, sort, 0), 0);
        due("beside it", at(x, sort, 2), 0);
      }
    }
  }

  // "NOTHING; CAST; PLACE", one ahead of the other
  private static void putSorts() {
    LightScript x = desk();
    due("put into nothing", x.put(0, 0, 1), -11);
    due("NOTHING goes ahead of PLACE", x.put(0, -1, 1), -11);
    x.keep(0);
    due("put into a SHOW", x.put(0, 0, 1), -12);
    due("CAST goes ahead of PLACE", x.put(0, 100, 1), -12);
    due("CAST goes ahead of PLACE", x.put(0, -1, 1), -12);
    due("NONE goes ahead", x.put(6, -1, 1), -1);
    due("a SHOW yet", x.clear(0), 5);
    due("count(7)", x.count(7), 5);
  }

  // "IllegalArgumentException: no such TAPE; IllegalStateException: it holds no row, or ... no place"
  private static void atPlaces() {
    LightScript x = desk();
    for (int d : NO_TAPES) {
      due("at(" + d + ", 0)", at(x, d, 0), IAE);
      due("IAE goes ahead of ISE", at(x, d, -1), IAE);
      due("IAE goes ahead of ISE", at(x, d, 100), IAE);
    }
    for (int d = 0; d < 6; d++) {
      due("at of nothing", at(x, d, 0), ISE);
      x.keep(d);
      due("at of a SHOW", at(x, d, 0), ISE);
      row(x, d, d % 4 + 1, 5, 6);
      dueRow("at", x, d, 5, 6);
      for (int i : new int[] {-1, 2, 99, 100, MIN, MAX}) {
        due("at(" + d + ", " + i + ")", at(x, d, i), ISE);
      }
      x.tape(d, 1, 0);
      due("at of a row of none", at(x, d, 0), ISE);
    }
    due("count(7)", x.count(7), 0);
  }

  // "what it held (0 nothing, 1 .. 5)"
  private static void clearTells() {
    LightScript x = desk();
    for (int d = 0; d < 6; d++) {
      due("clear nothing", x.clear(d), 0);
      for (int sort = 1; sort <= 4; sort++) {
        x.tape(d, sort, sort == 2 ? 0 : 1);
        due("clear", x.clear(d), sort);
        due("nothing then", x.put(d, 0, 1), -11);
        due("clear nothing", x.clear(d), 0);
      }
      x.keep(d);
      due("clear a SHOW", x.clear(d), 5);
      due("nothing then", x.back(d), -11);
    }
  }

  // "NONE: no such TAPE; NOTHING: of either"
  private static void copyTapes() {
    LightScript x = desk();
    row(x, 0, 1, 1, 2);
    x.keep(1);
    for (int d : NO_TAPES) {
      due("NONE goes ahead of NOTHING", x.copy(d, 0, 5, 0, 1), -1);
      due("NONE goes ahead of NOTHING", x.copy(5, 0, d, 0, 1), -1);
      due("NONE goes ahead of CAST", x.copy(1, 0, d, 0, 1), -1);
      due("NONE goes ahead of CAST", x.copy(d, 0, 1, 0, 1), -1);
      due("NONE goes ahead of PLACE", x.copy(0, 0, d, 0, -1), -1);
    }
    due("count(7)", x.count(7), 0);
    due("nothing to a row", x.copy(5, 0, 0, 0, 1), -11);
    due("a row to nothing", x.copy(0, 0, 5, 0, 1), -11);
    due("nothing to nothing", x.copy(5, 0, 4, 0, 1), -11);
    due("NOTHING goes ahead of CAST", x.copy(1, 0, 5, 0, 1), -11);
    due("NOTHING goes ahead of CAST", x.copy(5, 0, 1, 0, 1), -11);
    due("NOTHING goes ahead of PLACE", x.copy(0, -1, 5, 0, 1), -11);
    due("NOTHING goes ahead of PLACE", x.copy(5, 0, 0, 9, -1), -11);
    due("count(7)", x.count(7), 7);
    dueRow("as it was", x, 0, 1, 2);
    due("nothing yet", x.clear(5), 0);
  }

  // "CAST: one is no row, or they are of two sorts"
  private static void copySorts() {
    LightScript x = desk();
    int refusals = 0;
    for (int a = 1; a <= 5; a++) {
      for (int b = 1; b <= 5; b++) {
        for (int side = 0; side < 2; side++) {
          int sort = side == 0 ? a : b;
          if (sort == 5) {
            x.keep(side);
          } else {
            x.tape(side, sort, 2);
            x.put(side, 0, 7 + side);
          }
        }
        boolean well = a == b && a != 5;
        due("copy " + a + " to " + b, x.copy(0, 0, 1, 0, 1), well ? 1 : -12);
        due("CAST goes ahead of PLACE", x.copy(0, -1, 1, 0, 1), well ? -13 : -12);
        due("CAST goes ahead of PLACE", x.copy(0, 0, 1, 0, 3), well ? -13 : -12);
        refusals += well ? 2 : 3;
        due("count(7)", x.count(7), refusals);
        if (b != 5) {
          dueRow("copied or as it was", x, 1, well ? 7 : 8, 0);
        }
      }
    }
    x.keep(0);
    due("a SHOW to itself", x.copy(0, 0, 0, 0, 0), -12);
  }

  // "PLACE: n, i or j is below 0, or a row has not so many"
  private static void copyPlaces() {
    for (int i = -1; i <= 6; i++) {
      for (int j = -1; j <= 4; j++) {
        for (int n = -1; n <= 6; n++) {
          LightScript x = desk();
          row(x, 0, 3, 1, 2, 3, 4, 5);
          row(x, 1, 3, -1, -2, -3);
          boolean well = i >= 0 && j >= 0 && n >= 0 && i + n <= 5 && j + n <= 3;
          due("copy(0, " + i + ", 1, " + j + ", " + n + ")", x.copy(0, i, 1, j, n), well ? n : -13);
          due("count(7)", x.count(7), well ? 0 : 1);
          for (int at = 0; at < 3; at++) {
            boolean copied = well && at >= j && at < j + n;
            due("at(1, " + at + ")", at(x, 1, at), copied ? i + at - j + 1 : -1 - at);
          }
          dueRow("the one copied from", x, 0, 1, 2, 3, 4, 5);
        }
      }
    }
    LightScript x = desk();
    x.tape(0, 4, 100);
    x.tape(1, 4, 100);
    x.put(0, 99, 5);
    due("copy 100", x.copy(0, 0, 1, 0, 100), 100);
    due("copy 101", x.copy(0, 0, 1, 0, 101), -13);
    due("copy the last", x.copy(0, 99, 1, 0, 1), 1);
    due("copy to the last", x.copy(1, 0, 0, 98, 2), 2);
    due("at", at(x, 0, 98), 5);
    for (int far : new int[] {MIN, MIN + 1, MAX - 1, MAX}) {
      due("copy from " + far, x.copy(0, far, 1, 0, 1), -13);
      due("copy to " + far, x.copy(0, 0, 1, far, 1), -13);
      due("copy " + far, x.copy(0, 0, 1, 0, far), -13);
      due("copy from 1, " + far, x.copy(0, 1, 1, 1, far), -13);
      due("copy from and " + far, x.copy(0, far, 1, 0, far), -13);
      due("copy from and to " + far, x.copy(0, far, 1, far, 2), -13);
    }
    x.tape(2, 4, 0);
    due("copy none of none", x.copy(2, 0, 2, 0, 0), 0);
    due("copy one of none", x.copy(2, 0, 2, 0, 1), -13);
    due("copy none to none", x.copy(0, 100, 2, 0, 0), 0);
    due("copy none from beyond", x.copy(0, 101, 2, 0, 0), -13);
    due("copy none to beyond", x.copy(0, 100, 2, 1, 0), -13);
  }

  // "(as they all were before)"
  private static void copyAsTheyWere() {
    for (int sort = 1; sort <= 4; sort++) {
      for (int i = 0; i <= 6; i++) {
        for (int j = 0; j <= 6; j++) {
          LightScript x = desk();
          row(x, 0, sort, 1, 2, 3, 4, 5, 6);
          int n = 6 - Math.max(i, j);
          due("copy in itself", x.copy(0, i, 0, j, n), n);
          for (int at = 0; at < 6; at++) {
            boolean copied = at >= j && at < j + n;
            due("at " + at + " from " + i + " to " + j, at(x, 0, at), copied ? i + at - j + 1
                : at + 1);
          }
        }
      }
    }
  }

  // "a SHOW (5): all CUES", "TAPE d gets a SHOW: how many CUES"
  private static void keepAllCues() {
    for (int cues : new int[] {0, 1, 2, 119, 120}) {
      LightScript x = desk();
      // 108 OPEN ones first if they are many; the last two are of KIND 1.
      int[] row = cues >= 119
          ? new int[] {2, 1, 6, 3, 6, 2, 6, 6, 3, 0, -1, 3, 7, 7, 7, 3, 0, 1, 5, 3, 0, 1, cues - 115,
              1, 1, 0, 4, 1, 1, 0, -4, 0}
          : cues == 1 ? new int[] {2, 1, 1, 1, 0, 4, 0}
          : cues == 2 ? new int[] {2, 1, 1, 1, 0, 4, 1, 1, 0, -4, 0} : new int[] {0};
      x.tape(0, 1, row.length);
      for (int i = 0; i < row.length; i++) {
        x.put(0, i, row[i]);
      }
      due("write", x.write(0), cues);
      due("keep", x.keep(3), cues);
      x.tape(0, 1, 1);
      due("no CUES", x.write(0), 0);
      due("back", x.back(3), cues);
      due("count(2)", x.count(2), cues);
      due("count(3)", x.count(3), cues >= 119 ? 108 : 0);
      if (cues > 1) {
        int[] want = {10, 1, 0, -4, 2};
        for (int what = 0; what < 5; what++) {
          due("the last", x.cue(cues - 1, what), want[what]);
        }
        due("the last but one", x.cue(cues - 2, 3), 4);
      }
      due("back again", x.back(3), cues);
      due("the SHOW stays", x.clear(3), 5);
    }
  }

  private static void keptAreCopies() {
    LightScript x = desk();
    row(x, 0, 1, 2, 2, 3, 0, -1, 3, 0);
    x.write(0);
    due("keep", x.keep(1), 3);
    x.stretch(0, 2, 1);
    x.place(0, 1);
    due("keep", x.keep(2), 3);
    x.place(1, 0);
    x.lay(0);
    due("back to the first", x.back(1), 3);
    due("burst", x.cue(0, 0), 20);
    due("OPEN ones", x.count(3), 3);
    x.place(2, 1);
    due("back to the second", x.back(2), 3);
    due("burst", x.cue(0, 0), 40);
    due("barge", x.cue(0, 2), 1);
    due("OPEN ones", x.count(3), 2);
    due("back to the first", x.back(1), 3);
    due("OPEN ones", x.count(3), 3);
    due("toss", x.toss(1), 3);
    due("toss", x.toss(2), 2);
  }

  // "NONE: no such TAPE; NOTHING; CAST"
  private static void backRefused() {
    LightScript x = desk();
    row(x, 0, 1, 2, 2, 3, 0, 0, 3, 0);
    x.write(0);
    x.fault(1, 4);
    x.seen(20, 1);
    for (int d : NO_TAPES) {
      due("back(" + d + ")", x.back(d), -1);
    }
    due("back nothing", x.back(5), -11);
    for (int sort = 1; sort <= 4; sort++) {
      x.tape(5, sort, 100);
      due("back a row", x.back(5), -12);
      due("toss a row", x.toss(5), -12);
    }
    due("CUES stay", x.count(2), 3);
    due("SEEN stay", x.count(6), 1);
    due("FAULTS stay", x.fault(1, 4), 4);
    x.keep(5);
    due("back", x.back(5), 3);
    due("SEEN are gone", x.count(6), 0);
    due("FAULTS are gone", x.fault(1, 0), 0);
  }

  // "UNABLE: one is of a KIND or BARGE that isn't told"
  private static void backUnable() {
    LightScript x = desk();
    // KIND 0 from BARGE 0, KIND 1 from BARGE 1, KIND 1 OPEN.
    row(x, 0, 1, 2, 2, 1, 0, 0, 0, 1, 1, 1, 0, 1, 1, -1, 0, 0);
    due("write", x.write(0), 3);
    x.keep(1);
    for (int told = 0; told < 16; told++) {
      x.begin();
      // A LIFT above its BURST: EARLY, if the others are told.
      for (int k = 0; k < 2; k++) {
        if ((told & 1 << k) != 0) {
          x.kind(k, 21, 50, 0, 1010);
        }
        if ((told & 4 << k) != 0) {
          x.barge(k, 5, 5, 1);
        }
      }
      due("back, told " + told, x.back(1), told == 15 ? -5 : -3);
      due("no CUES", x.count(2), 0);
      if (told == 15) {
        x.kind(0, 20, 50, 0, 1010);
        due("back, the others are EARLY", x.back(1), -5);
        x.kind(0, 21, 50, 0, 1010);
        x.kind(1, 20, 50, 0, 1010);
        due("back, the first is EARLY", x.back(1), -5);
        due("no CUES", x.count(2), 0);
        x.kind(0, 20, 50, 0, 1010);
        due("back", x.back(1), 3);
      }
    }
    due("count(7)", x.count(7), 0);
    // Other KINDS and BARGES don't matter; of an OPEN one no BARGE is wanted.
    x.begin();
    row(x, 0, 1, 2, 2, 1, 1, -1, 0, 0);
    x.kind(1, 8, 50, 0, 1010);
    due("write", x.write(0), 1);
    x.keep(2);
    x.begin();
    due("back, no KIND", x.back(2), -3);
    x.kind(0, 8, 50, 0, 1010);
    due("back, another KIND", x.back(2), -3);
    x.kind(1, 8, 50, 0, 1010);
    due("back, no BARGE", x.back(2), 1);
  }

  // "EARLY: a FIRE would be below 0"
  private static void backEarly() {
    for (int lift = 18; lift <= 23; lift++) {
      LightScript x = desk();
      row(x, 0, 1, 2, 2, 1, 1, 0, 0, 1, 0, 0, 0, 0);
      x.write(0);
      x.keep(1);
      row(x, 0, 1, 0);
      x.write(0);
      due("kind", x.kind(0, lift, 50, 0, 1010), 0);
      due("back, LIFT " + lift, x.back(1), lift <= 20 ? 2 : -5);
      due("CUES", x.count(2), lift <= 20 ? 2 : 0);
    }
  }

  // "how many OPEN CUES it has", "THROWN: one without OPEN CUES has none"
  private static void tossOfOpenOnes() {
    LightScript x = desk();
    due("keep no CUES", x.keep(0), 0);
    due("toss no CUES", x.toss(0), -15);
    row(x, 1, 1, 2, 2, 3, 0, 0, 5, 3, 0, 0, 5, 0);
    due("write", x.write(1), 10);
    for (int open = 0; open <= 10; open++) {
      x.keep(0);
      due("toss " + open, x.toss(0), open == 0 ? -15 : open);
      due("toss again", x.toss(0), open == 0 ? -15 : open);
      due("the SHOW stays", x.back(0), 10);
      due("OPEN ones", x.count(3), open);
      x.place(9 - open, -1);
    }
    due("count(7)", x.count(7), 3);
    row(x, 1, 1, 2, 2, 6, 8, 6, 3, 3, 0, -1, 5, 7, 7, 0);
    due("write", x.write(1), 120);
    x.keep(0);
    due("toss 120", x.toss(0), 120);
  }

  // "NONE for another what"
  private static void countsOf0To7() {
    LightScript x = new LightScript();
    for (int what : new int[] {-1, 8, MIN, MAX}) {
      due("count(" + what + ")", x.count(what), -1);
    }
    for (int what = 0; what <= 7; what++) {
      due("count(" + what + ")", x.count(what), 0);
    }
    for (int k = 0; k < 12; k++) {
      x.kind(11 - k, k % 2 == 0 ? 1 : 60, 50, 0, 1010);
      due("KINDS", x.count(0), k + 1);
    }
    for (int s = 0; s < 6; s++) {
      x.barge(5 - s, 0, 31, s % 2 == 0 ? 1 : 40);
      due("BARGES", x.count(1), s + 1);
    }
    row(x, 0, 1, 2, 6, 3, 0, -1, 5, 3, 0, 0, 4, 0);
    x.write(0);
    due("CUES", x.count(2), 9);
    due("OPEN ones", x.count(3), 5);
    for (int i = 1; i <= 20; i++) {
      x.meter(0, 0, 0);
      due("READINGS", x.count(4), i);
    }
    row(x, 1, 1, 1, 1, 0);
    for (int i = 1; i <= 8; i++) {
      x.hold(1);
      due("RULES", x.count(5), i);
    }
    for (int i = 1; i <= 60; i++) {
      x.seen(0, 1);
      due("SEEN", x.count(6), i);
    }
    due("refusals", x.count(7), 0);
    int[] want = {12, 6, 9, 5, 20, 8, 60, 0, -1};
    for (int what = 0; what <= 8; what++) {
      due("count(" + what + ")", x.count(what), want[what]);
    }
  }

  // "refusals of the host's (-11 to -15) since begin()": no other answer is one.
  private static void countsSinceBegin() {
    LightScript x = desk();
    due("NOTHING", x.write(0), -11);
    due("CAST", x.keep(0) + x.write(0), -12);
    due("PLACE", x.tape(0, 1, 0) + x.put(0, 0, 0), -13);
    due("SIZE", x.tape(0, 1, -1), -14);
    due("THROWN", x.keep(0) + x.toss(0), -15);
    due("count(7)", x.count(7), 5);
    due("NONE", x.apart(-1), -1);
    row(x, 0, 1, 2, 2, 3, 0, -1, 5, 3, 0, -1, 5, 0);
    due("write", x.write(0), 10);
    due("SPENT", x.lay(0), -4);
    due("EARLY", x.kind(0, 21, 50, 0, 1010), -5);
    due("FULL", x.stretch(0, 100, 1) + x.stretch(0, 100, 1), 10 - 2);
    x.keep(1);
    due("hot is cold", x.hot(0, 0, 0, 0, 0), -2);
    x.kind(2, 5, 10, 60, 4010);
    x.barge(2, 0, 0, 1);
    due("hot is beyond", x.hot(2, 2, 0, 0, 2), -3);
    due("dud is -2", x.dud(0), -2);
    row(x, 0, 1, 9);
    due("a fault", x.write(0), -100);
    due("a fault", x.hold(0), -100);
    due("ISE", at(x, 5, 0), ISE);
    due("IAE", at(x, 6, 0), IAE);
    due("count(7)", x.count(7), 5);
    due("begin", x.begin(), 0);
    due("count(7)", x.count(7), 0);
    due("UNABLE", x.back(1), -3);
    due("count(7)", x.count(7), 0);
    due("PLACE", x.put(0, 1, 0), -13);
    due("count(7)", x.count(7), 1);
    due("begin", x.begin(), 0);
    due("count(7)", x.count(7), 0);
  }

  // "(TAPES stay)"
  private static void tapesStay() {
    LightScript x = desk();
    for (int sort = 1; sort <= 4; sort++) {
      row(x, sort, sort, 5, 6, 7);
    }
    row(x, 0, 1, 2, 2, 3, 0, -1, 2, 0);
    x.write(0);
    x.keep(0);
    x.begin();
    for (int sort = 1; sort <= 4; sort++) {
      dueRow("a row stays", x, sort, 5, 6, 7);
      due("its sort stays", x.clear(sort), sort);
    }
    due("nothing stays nothing", x.clear(5), 0);
    due("a SHOW stays", x.toss(0), 2);
    x.kind(0, 5, 50, 0, 1010);
    due("a SHOW stays", x.back(0), 2);
    due("count(3)", x.count(3), 2);
  }
}
