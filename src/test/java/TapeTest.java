// Promises 32 to 40: tape, keep, back, toss, clear, put, at, copy, count; and the constants.
public final class TapeTest {
  private static final long IAE = Long.MIN_VALUE;
  private static final long ISE = Long.MIN_VALUE + 1;
  private static int wrong = 0;

  private static void due(String call, long got, long want) {
    if (got != want) {
      wrong++;
      System.out.println(call + " answered " + got + ", due is " + want);
    }
  }

  private static long at(LightScript x, int d, int i) {
    try {
      return x.at(d, i);
    } catch (IllegalArgumentException e) {
      return IAE;
    } catch (IllegalStateException e) {
      return ISE;
    }
  }

  private static void row(LightScript x, int d, int sort, long... row) {
    x.tape(d, sort, row.length);
    for (int i = 0; i < row.length; i++) {
      x.put(d, i, row[i]);
    }
  }

  private static void dueRow(String name, LightScript x, int d, long... want) {
    for (int i = 0; i < want.length; i++) {
      due(name + ": at(" + d + ", " + i + ")", at(x, d, i), want[i]);
    }
    due(name + ": at(" + d + ", its end)", at(x, d, want.length), ISE);
  }

  private static LightScript desk() {
    LightScript x = new LightScript();
    x.kind(0, 5, 50, 0, 1010);
    x.kind(1, 5, 50, 0, 1010);
    x.barge(0, 10, 10, 40);
    x.barge(1, 20, 20, 40);
    return x;
  }

  public static void main(String[] args) {
    constants();
    tape();
    keepAndBack();
    backRefused();
    backTakesAway();
    toss();
    clear();
    put();
    at();
    copy();
    copyRefused();
    copyPlaces();
    count();
    countOfRefusals();
    System.out.println(wrong == 0 ? "all answers are as due" : wrong + " answers are not as due");
    if (wrong != 0) {
      System.exit(1);
    }
  }

  private static void constants() {
    due("NONE", LightScript.NONE, -1);
    due("FULL", LightScript.FULL, -2);
    due("UNABLE", LightScript.UNABLE, -3);
    due("SPENT", LightScript.SPENT, -4);
    due("EARLY", LightScript.EARLY, -5);
    due("NOTHING", LightScript.NOTHING, -11);
    due("CAST", LightScript.CAST, -12);
    due("PLACE", LightScript.PLACE, -13);
    due("SIZE", LightScript.SIZE, -14);
    due("THROWN", LightScript.THROWN, -15);
  }

  private static void tape() {
    LightScript x = new LightScript();
    for (int sort = 1; sort <= 4; sort++) {
      due("tape", x.tape(sort, sort, 100), 100);
      due("at", at(x, sort, 99), 0);
      due("at", at(x, sort, 100), ISE);
    }
    due("tape", x.tape(0, 1, 0), 0);
    due("at", at(x, 0, 0), ISE);
    due("tape d", x.tape(-1, 1, 1), -1);
    due("tape d", x.tape(6, 1, 1), -1);
    due("tape sort", x.tape(5, 0, 1), -1);
    due("tape sort", x.tape(5, 5, 1), -1);
    due("tape sort", x.tape(5, -1, 1), -1);
    due("tape n", x.tape(5, 1, 101), -1);
    due("tape size", x.tape(5, 1, -1), -14);
    due("tape size", x.tape(5, 4, Integer.MIN_VALUE), -14);
    due("tape size, no such sort", x.tape(5, 5, -1), -1);
    due("tape size, no such tape", x.tape(6, 1, -1), -1);
    due("count(7)", x.count(7), 2);
    due("clear", x.clear(5), 0);
    row(x, 1, 1, 1, 2, 3);
    dueRow("tape", x, 1, 1, 2, 3);
    due("tape size", x.tape(1, 1, -3), -14);
    dueRow("what is refused changes nothing", x, 1, 1, 2, 3);
    due("tape anew", x.tape(1, 4, 2), 2);
    dueRow("tape anew", x, 1, 0, 0);
    due("tape anew", x.tape(1, 4, 4), 4);
    dueRow("tape anew", x, 1, 0, 0, 0, 0);
    x.keep(1);
    due("tape over a show", x.tape(1, 2, 1), 1);
    due("clear", x.clear(1), 2);
  }

  private static void keepAndBack() {
    LightScript x = desk();
    due("keep d", x.keep(-1), -1);
    due("keep d", x.keep(6), -1);
    due("keep none", x.keep(1), 0);
    row(x, 0, 1, 2, 1, 1, 0, 0, 4, 2, 1, 1, 1, -1, -3, 0);
    x.write(0);
    due("keep two", x.keep(2), 2);
    due("keep two over a row", x.keep(0), 2);
    due("back none", x.back(1), 0);
    due("count", x.count(2), 0);
    due("back two", x.back(2), 2);
    int[][] want = {{10, 0, 0, 4, 5}, {20, 1, -1, -3, 15}};
    for (int c = 0; c < 2; c++) {
      for (int what = 0; what < 5; what++) {
        due("cue(" + c + ", " + what + ")", x.cue(c, what), want[c][what]);
      }
    }
    x.place(1, 1);
    x.stretch(0, 2, 1);
    due("the kept ones stay", x.back(0), 2);
    due("burst", x.cue(0, 0), 10);
    due("barge", x.cue(1, 2), -1);
    due("back again", x.back(0), 2);
    x.begin();
    due("back after begin", x.back(0), -3);
    due("count", x.count(2), 0);
  }

  private static void backRefused() {
    LightScript x = desk();
    due("back d", x.back(-1), -1);
    due("back d", x.back(6), -1);
    due("back nothing", x.back(5), -11);
    for (int sort = 1; sort <= 4; sort++) {
      x.tape(5, sort, 3);
      due("back a row", x.back(5), -12);
    }
    due("count(7)", x.count(7), 5);
    row(x, 0, 1, 2, 1, 1, 0, 0, 0, 1, 1, 1, 0, 0);
    x.write(0);
    x.keep(1);
    x.begin();
    x.kind(0, 11, 50, 0, 1010);
    x.barge(0, 10, 10, 40);
    due("back, a kind and a barge lack", x.back(1), -3);
    x.kind(1, 5, 50, 0, 1010);
    due("back, a barge lacks, early too", x.back(1), -3);
    x.barge(1, 10, 10, 40);
    due("back, early", x.back(1), -5);
    due("count", x.count(2), 0);
    x.kind(0, 10, 50, 0, 1010);
    due("back", x.back(1), 2);
    due("fire", x.cue(0, 4), 0);
    due("count(7)", x.count(7), 0);
    LightScript y = desk();
    row(y, 0, 1, 2, 1, 1, 0, -1, 0, 1, 1, -1, 0, 0);
    y.write(0);
    y.keep(1);
    y.begin();
    y.kind(0, 5, 50, 0, 1010);
    due("back, a kind lacks", y.back(1), -3);
    y.kind(1, 11, 50, 0, 1010);
    due("back, the second is early", y.back(1), -5);
    y.kind(1, 10, 50, 0, 1010);
    due("back open ones, no barges", y.back(1), 2);
    due("open", y.count(3), 2);
  }

  private static void backTakesAway() {
    LightScript x = desk();
    row(x, 0, 1, 2, 1, 3, 0, 0, 2, 0);
    x.write(0);
    x.keep(1);
    x.fault(0, 6);
    x.fault(1, 2);
    x.seen(10, 1);
    x.halt(9);
    x.meter(1, 0, 0);
    row(x, 2, 1, 4, 5, 0);
    x.hold(2);
    due("back a row", x.back(0), -12);
    due("seen stay", x.count(6), 1);
    due("faults stay", x.fault(0, 6), 6);
    due("back", x.back(1), 2);
    due("seen are gone", x.count(6), 0);
    due("faults are gone", x.fault(0, 0), 0);
    due("faults are gone", x.fault(1, 0), 0);
    due("readings stay", x.count(4), 1);
    due("rules stay", x.count(5), 1);
    due("the halt stays", x.halt(-1), 9);
  }

  private static void toss() {
    LightScript x = desk();
    due("toss d", x.toss(-1), -1);
    due("toss d", x.toss(6), -1);
    due("toss nothing", x.toss(5), -11);
    for (int sort = 1; sort <= 4; sort++) {
      x.tape(5, sort, 3);
      due("toss a row", x.toss(5), -12);
    }
    x.keep(1);
    due("toss no cues", x.toss(1), -15);
    row(x, 0, 1, 2, 1, 3, 0, -1, 5, 1, 0, 0, 0, 0);
    x.write(0);
    x.keep(1);
    due("toss five", x.toss(1), 5);
    due("toss five", x.toss(1), 5);
    x.place(2, 1);
    due("toss the kept ones", x.toss(1), 5);
    x.keep(1);
    due("toss four", x.toss(1), 4);
    due("the cues stay", x.count(3), 4);
    due("lay", x.apart(0), 2);
    due("lay", x.lay(0), 3);
    x.keep(2);
    due("toss without open ones", x.toss(2), -15);
    due("toss four", x.toss(1), 4);
    due("count(7)", x.count(7), 7);
  }

  private static void clear() {
    LightScript x = new LightScript();
    due("clear d", x.clear(-1), -1);
    due("clear d", x.clear(6), -1);
    for (int sort = 1; sort <= 4; sort++) {
      x.tape(3, sort, 2);
      due("clear", x.clear(3), sort);
      due("clear again", x.clear(3), 0);
      due("at", at(x, 3, 0), ISE);
      due("put", x.put(3, 0, 1), -11);
    }
    x.keep(3);
    due("clear a show", x.clear(3), 5);
    due("clear again", x.clear(3), 0);
    due("back", x.back(3), -11);
    x.tape(0, 1, 1);
    x.tape(5, 2, 1);
    due("clear", x.clear(5), 2);
    due("clear the other", x.clear(0), 1);
  }

  private static void put() {
    LightScript x = new LightScript();
    due("put d", x.put(-1, 0, 0), -1);
    due("put d", x.put(6, 0, 0), -1);
    due("put nothing", x.put(0, 0, 0), -11);
    x.keep(0);
    due("put in a show", x.put(0, 0, 0), -12);
    x.tape(0, 1, 3);
    due("put place", x.put(0, 3, 0), -13);
    due("put place", x.put(0, -1, 0), -13);
    due("put place", x.put(0, Integer.MIN_VALUE, 0), -13);
    due("count(7)", x.count(7), 5);
    long[] values = {127, 128, 255, 256, -129, 32768, 65536L + 7, 2147483648L, -2147483649L,
        4294967296L + 5, Long.MIN_VALUE, Long.MAX_VALUE};
    for (int sort = 1; sort <= 4; sort++) {
      x.tape(sort, sort, 2);
      for (long v : values) {
        long want = sort == 1 ? (byte) v : sort == 2 ? (short) v : sort == 3 ? (int) v : v;
        due("put", x.put(sort, 1, v), 1);
        due("at of sort " + sort, at(x, sort, 1), want);
        due("at of sort " + sort, at(x, sort, 0), 0);
      }
    }
    x.tape(0, 4, 0);
    due("put in an empty row", x.put(0, 0, 0), -13);
  }

  private static void at() {
    LightScript x = new LightScript();
    due("at d", at(x, -1, 0), IAE);
    due("at d", at(x, 6, 0), IAE);
    due("at nothing", at(x, 5, 0), ISE);
    x.keep(5);
    due("at a show", at(x, 5, 0), ISE);
    row(x, 5, 3, 7, 8);
    due("at", at(x, 5, 1), 8);
    due("at place", at(x, 5, 2), ISE);
    due("at place", at(x, 5, -1), ISE);
    due("count(7)", x.count(7), 0);
  }

  private static void copy() {
    LightScript x = new LightScript();
    for (int sort = 1; sort <= 4; sort++) {
      row(x, 0, sort, 1, 2, 3, 4, 5);
      row(x, 1, sort, -1, -2, -3);
      due("copy", x.copy(0, 3, 1, 1, 2), 2);
      dueRow("copy of sort " + sort, x, 1, -1, 4, 5);
      dueRow("copy of sort " + sort, x, 0, 1, 2, 3, 4, 5);
      due("copy up in itself", x.copy(0, 0, 0, 1, 4), 4);
      dueRow("copy up in itself", x, 0, 1, 1, 2, 3, 4);
      due("copy down in itself", x.copy(0, 2, 0, 0, 3), 3);
      dueRow("copy down in itself", x, 0, 2, 3, 4, 3, 4);
      due("copy all", x.copy(1, 0, 0, 2, 3), 3);
      dueRow("copy all", x, 0, 2, 3, -1, 4, 5);
      due("copy none", x.copy(1, 3, 0, 5, 0), 0);
      dueRow("copy none", x, 0, 2, 3, -1, 4, 5);
    }
    row(x, 2, 4, Long.MIN_VALUE, Long.MAX_VALUE);
    x.tape(3, 4, 1);
    due("copy a long", x.copy(2, 1, 3, 0, 1), 1);
    dueRow("copy a long", x, 3, Long.MAX_VALUE);
  }

  private static void copyRefused() {
    LightScript x = new LightScript();
    x.tape(0, 1, 3);
    x.tape(1, 2, 3);
    x.keep(2);
    x.keep(3);
    due("copy d", x.copy(-1, 0, 0, 0, 1), -1);
    due("copy d", x.copy(6, 0, 0, 0, 1), -1);
    due("copy e", x.copy(0, 0, -1, 0, 1), -1);
    due("copy e", x.copy(0, 0, 6, 0, 1), -1);
    due("copy e, d holds nothing", x.copy(5, 0, 6, 0, 1), -1);
    due("copy nothing", x.copy(5, 0, 0, 0, 1), -11);
    due("copy to nothing", x.copy(0, 0, 5, 0, 1), -11);
    due("copy nothing to a show", x.copy(5, 0, 2, 0, 1), -11);
    due("copy a show to nothing", x.copy(2, 0, 5, 0, 1), -11);
    due("copy nothing, wrong places", x.copy(5, -1, 0, 0, -1), -11);
    due("copy of two sorts", x.copy(0, 0, 1, 0, 1), -12);
    due("copy of two sorts", x.copy(1, 0, 0, 0, 1), -12);
    due("copy a show", x.copy(2, 0, 0, 0, 1), -12);
    due("copy to a show", x.copy(0, 0, 2, 0, 1), -12);
    due("copy shows", x.copy(2, 0, 3, 0, 0), -12);
    due("copy of two sorts, wrong places", x.copy(0, -1, 1, 9, -1), -12);
    due("count(7)", x.count(7), 11);
  }

  private static void copyPlaces() {
    LightScript x = new LightScript();
    row(x, 0, 3, 1, 2, 3);
    row(x, 1, 3, 4, 5);
    due("copy n", x.copy(0, 0, 1, 0, -1), -13);
    due("copy i", x.copy(0, -1, 1, 0, 1), -13);
    due("copy j", x.copy(0, 0, 1, -1, 1), -13);
    due("copy too many", x.copy(0, 2, 1, 0, 2), -13);
    due("copy too many", x.copy(0, 0, 1, 1, 2), -13);
    due("copy too many", x.copy(0, 0, 1, 0, 3), -13);
    due("copy none from beyond", x.copy(0, 4, 1, 0, 0), -13);
    due("copy none to beyond", x.copy(0, 0, 1, 3, 0), -13);
    due("copy many", x.copy(0, 1, 1, 0, Integer.MAX_VALUE), -13);
    due("copy from far", x.copy(0, Integer.MAX_VALUE, 1, 0, 1), -13);
    due("copy to far", x.copy(0, 0, 1, Integer.MAX_VALUE, Integer.MAX_VALUE), -13);
    due("copy below", x.copy(0, Integer.MIN_VALUE, 1, 0, Integer.MIN_VALUE), -13);
    dueRow("what is refused changes nothing", x, 0, 1, 2, 3);
    dueRow("what is refused changes nothing", x, 1, 4, 5);
    due("count(7)", x.count(7), 12);
    due("copy none", x.copy(0, 3, 1, 2, 0), 0);
  }

  private static void count() {
    LightScript x = desk();
    x.kind(11, 5, 50, 0, 1010);
    x.kind(11, 6, 50, 0, 1010);
    row(x, 0, 1, 2, 1, 3, 0, -1, 4, 3, 0, 0, 2, 0);
    x.write(0);
    x.meter(0, 0, 0);
    x.meter(0, 0, 0);
    x.meter(0, 0, 0);
    x.meter(0, 0, 0);
    x.meter(0, 0, 0);
    row(x, 1, 1, 4, 0, 0);
    x.hold(1);
    for (int i = 0; i < 7; i++) {
      x.seen(1, 1);
    }
    int[] want = {3, 2, 6, 4, 5, 1, 7, 0};
    for (int what = 0; what < 8; what++) {
      due("count(" + what + ")", x.count(what), want[what]);
    }
    due("count(-1)", x.count(-1), -1);
    due("count(8)", x.count(8), -1);
    x.place(0, 0);
    due("count(3)", x.count(3), 3);
    x.unseen();
    due("count(6)", x.count(6), 0);
  }

  private static void countOfRefusals() {
    LightScript x = desk();
    int refusals = 0;
    due("NOTHING", x.write(1), -11);
    due("count(7)", x.count(7), ++refusals);
    due("NOTHING", x.hold(1), -11);
    due("count(7)", x.count(7), ++refusals);
    due("NOTHING", x.proof(1, 0), -11);
    due("count(7)", x.count(7), ++refusals);
    due("NOTHING", x.back(1), -11);
    due("count(7)", x.count(7), ++refusals);
    due("NOTHING", x.toss(1), -11);
    due("count(7)", x.count(7), ++refusals);
    due("NOTHING", x.put(1, 0, 0), -11);
    due("count(7)", x.count(7), ++refusals);
    due("NOTHING", x.copy(1, 0, 1, 0, 0), -11);
    due("count(7)", x.count(7), ++refusals);
    due("SIZE", x.tape(1, 1, -1), -14);
    due("count(7)", x.count(7), ++refusals);
    x.keep(1);
    due("CAST", x.put(1, 0, 0), -12);
    due("count(7)", x.count(7), ++refusals);
    due("THROWN", x.toss(1), -15);
    due("count(7)", x.count(7), ++refusals);
    x.tape(1, 1, 1);
    due("PLACE", x.put(1, 1, 0), -13);
    due("count(7)", x.count(7), ++refusals);
    due("CAST", x.toss(1), -12);
    due("count(7)", x.count(7), ++refusals);
    due("PLACE", x.copy(1, 0, 1, 0, 2), -13);
    due("count(7)", x.count(7), ++refusals);
    // Those that aren't the host's don't count.
    due("NONE", x.put(6, 0, 0), -1);
    due("UNABLE", x.back(0), -11);
    due("count(7)", x.count(7), ++refusals);
    due("NONE", x.apart(-1), -1);
    due("NONE", x.tape(0, 9, -1), -1);
    due("fault", x.write(1), 0);
    due("ISE", at(x, 1, 7), ISE);
    due("count(7)", x.count(7), refusals);
    x.begin();
    due("count(7)", x.count(7), 0);
    due("PLACE", x.put(1, 1, 0), -13);
    due("count(7)", x.count(7), 1);
  }
}
