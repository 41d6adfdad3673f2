import java.util.ArrayList;
import java.util.List;

/**
 * Part VII: what is refused changes nothing. Each refused call is made on an object that is then
 * asked for all it holds; a twin that wasn't called so must answer alike. What only asks is taken
 * for refused too: it changes nothing either. And of several refusals the one named first in a
 * method's words is answered.
 */
public final class RefusedTest {
  private static final long IAE = Long.MIN_VALUE + 1;
  private static final long ISE = Long.MIN_VALUE + 2;
  private static final int MIN = Integer.MIN_VALUE;
  private static final int MAX = Integer.MAX_VALUE;
  /** An object is used for 512 calls: a desk takes less than 200, the call that is tried one. */
  private static final int ASKED_OF_ONE = 300;
  private static int wrong = 0;

  private interface Call {
    long on(LightScript x);
  }

  private interface Desk {
    void make(LightScript x);
  }

  private static void due(String call, long got, long want) {
    if (got != want) {
      wrong++;
      System.out.println(call + " answered " + got + ", due is " + want);
    }
  }

  private static long answer(LightScript x, Call call) {
    try {
      return call.on(x);
    } catch (IllegalArgumentException e) {
      return IAE;
    } catch (IllegalStateException e) {
      return ISE;
    }
  }

  private static void row(LightScript x, int d, int sort, int... row) {
    x.tape(d, sort, row.length);
    for (int i = 0; i < row.length; i++) {
      if (row[i] != 0) {
        x.put(d, i, row[i]);
      }
    }
  }

  // What an object holds, asked by calls; those that change something come last.

  private static final List<Call> ALL = all();
  private static final List<Call> GROUND = ground();

  private static List<Call> all() {
    List<Call> all = new ArrayList<>();
    for (int i = 0; i <= 6; i++) {
      int what = i;
      all.add(x -> x.count(what));
    }
    for (int i = 0; i < 72; i++) {
      int s = i % 6;
      int k = i / 6;
      all.add(x -> x.may(s, k));
    }
    for (int i = 0; i < 60; i++) {
      int c = i / 5;
      int what = i % 5;
      all.add(x -> x.cue(c, what));
    }
    for (int i = 0; i < 36; i++) {
      int c = i / 3;
      int what = i % 3;
      all.add(x -> x.goes(c, what));
    }
    for (int i = 0; i < 12; i++) {
      int c = i;
      all.add(x -> x.fate(c));
      all.add(x -> x.order(c));
      all.add(x -> x.dud(c));
    }
    for (int i = 0; i < 4 * 2 * 5; i++) {
      int w = i % 4;
      int s = i / 4 % 2;
      int ember = i / 8;
      all.add(x -> x.hot(0, s, 1, w, ember));
      all.add(x -> x.hot(2, s, 0, w, ember));
      all.add(x -> x.safe(0, s, ember - 2, w));
    }
    for (int i = 0; i < 40; i++) {
      int tick = i < 30 ? 5 * i : 20000 - i * i * i / 4;
      all.add(x -> x.knows(tick));
    }
    for (int i = 0; i < 6 * 10; i++) {
      int d = i % 6;
      int at = i / 6;
      all.add(x -> x.at(d, at));
    }
    all.add(x -> x.duds());
    all.add(x -> x.strange());
    for (int i = 0; i < 12; i++) {
      int c = i;
      all.add(x -> x.fault(c, 0));
    }
    all.add(x -> x.apart(2));
    all.add(x -> x.halt(-1));
    all.add(x -> x.holdless());
    // By kinds told anew each layer of each wind is asked for.
    int[] heights = {49, 99, 149, 199, 247};
    for (int i = 0; i < 20; i++) {
      int layer = i / 4;
      int w = i % 4;
      all.add(x -> {
        x.kind(11, 1, heights[layer], 0, 99000 + 10);
        x.barge(5, 15, 15, 1);
        return x.hot(11, 5, 0, w, 0);
      });
    }
    for (int i = 0; i < 6; i++) {
      int d = i;
      all.add(x -> x.toss(d));
      all.add(x -> x.back(d) * 1000L + x.cue(0, 0));
    }
    all.add(x -> x.unseen());
    for (int i = 0; i < 6; i++) {
      int d = i;
      all.add(x -> x.clear(d));
    }
    return all;
  }

  private static List<Call> ground() {
    List<Call> ground = new ArrayList<>();
    for (int i = 0; i < 1024; i++) {
      int cell = i;
      ground.add(x -> x.cell(cell % 32, cell / 32, 0));
    }
    return ground;
  }

  private static long[] ask(Desk desk, Call call, List<Call> asked) {
    long[] answers = new long[asked.size()];
    for (int from = 0; from < answers.length; from += ASKED_OF_ONE) {
      LightScript x = new LightScript();
      desk.make(x);
      if (call != null) {
        answer(x, call);
      }
      for (int i = from; i < answers.length && i < from + ASKED_OF_ONE; i++) {
        answers[i] = answer(x, asked.get(i));
      }
    }
    return answers;
  }

  private static void dueAlike(String name, Desk desk, Call call, List<Call> asked) {
    long[] without = ask(desk, null, asked);
    long[] with = ask(desk, call, asked);
    for (int i = 0; i < with.length; i++) {
      due(name + " changed something, question " + i, with[i], without[i]);
    }
  }

  /** The answer is as due, counted if it is a refusal of the host's, and changes nothing. */
  private static void dueRefused(String name, Desk desk, long want, Call call) {
    LightScript x = new LightScript();
    desk.make(x);
    int refusals = x.count(7);
    due(name, answer(x, call), want);
    due(name + ", then count(7)", x.count(7), refusals + (want >= -15 && want <= -11 ? 1 : 0));
    due(name + " again", answer(x, call), want);
    dueAlike(name, desk, call, ALL);
    dueAlike(name, desk, call, GROUND);
  }

  // Desks.

  /**
   * KINDS 0 to 2, BARGES 0 and 1, six CUES with FATES of many sorts, two of them OPEN. TAPES: 0 the
   * ORDERS, 1 a RULE, 2 shorts, 3 a SHOW without OPEN CUES, 4 longs, 5 nothing.
   */
  private static void desk(LightScript x) {
    x.cell(20, 20, 1);
    x.cell(12, 12, 2);
    x.kind(0, 5, 50, 5, 20012);
    x.kind(1, 4, 20, 3, 9013);
    x.kind(2, 9, 10, 2, 4021);
    x.barge(0, 10, 10, 5);
    x.barge(1, 20, 20, 6);
    x.wind(1, 0, 20, -30);
    x.wind(3, 1, 50, 50);
    x.apart(3);
    row(x, 0, 1, 2, 2, 3, 0, 1, 2, 0);
    x.write(0);
    x.keep(3);
    row(x, 0, 1, 2, 2, 3, 0, -1, 2, 2, 1, 1, 2, 0, 1, 1, 2, 1, 0, 1, 0, 1, 2, 1, 0, 0, -3, 0);
    x.write(0);
    x.meter(1, 5, 20);
    x.meter(3, 20, 25);
    row(x, 1, 1, 5, 2, 4, 1, 6, 0);
    x.hold(1);
    x.fault(4, 6);
    x.fault(5, 2);
    x.halt(26);
    x.seen(29, 1);
    x.seen(31, 1);
    x.seen(30, 2);
    row(x, 2, 2, 300, -300, 7);
    row(x, 4, 4, 1, 2, 3, 4);
  }

  /** Its CUES' FIRES are at 0 and, BURST 20000, at 19995. */
  private static void earlyAndFull(LightScript x) {
    desk(x);
    x.halt(-1);
    row(x, 5, 1, 8, 5, 2, 1, 1, 0, 0, 0, 8, 15, 2, 1, 8, 30, 2, 1, 8, 50, 2, 49, 6, 7, 2, 50, 7, 1,
        0, 1, 0, 0);
    due("write", x.write(5), 2);
    due("fire", x.cue(0, 4), 0);
    due("burst", x.cue(1, 0), 20000);
    x.clear(5);
  }

  private static void nineOpen(LightScript x) {
    desk(x);
    row(x, 5, 1, 2, 2, 6, 3, 2, 1, 3, 0, -1, 3, 7, 1, 0, 0, 0, 0);
    due("write", x.write(5), 10);
    x.clear(5);
  }

  /** One OPEN CUE of a KIND that no BARGE HOLDS, another that each does. */
  private static void noLaying(LightScript x) {
    desk(x);
    x.kind(3, 5, 100, 0, 1010);
    x.barge(1, 13, 13, 9);
    row(x, 5, 1, 2, 3, 1, 1, -1, 0, 2, 3, 1, 3, -1, 0, 0);
    due("write", x.write(5), 2);
    row(x, 5, 1, 0, 0);
  }

  private static void allFull(LightScript x) {
    desk(x);
    for (int i = 2; i < 20; i++) {
      x.meter(2, 100, 100);
    }
    for (int r = 1; r < 8; r++) {
      x.hold(1);
    }
    for (int i = 3; i < 60; i++) {
      x.seen(40, 3);
    }
    due("count(4)", x.count(4), 20);
    due("count(5)", x.count(5), 8);
    due("count(6)", x.count(6), 60);
  }

  /** The SHOW on TAPE 3 is of KIND 0 and BARGE 1, with BURSTS at 20. */
  private static void begun(LightScript x) {
    desk(x);
    x.begin();
    x.barge(1, 20, 20, 6);
    x.kind(1, 4, 20, 3, 9013);
    row(x, 0, 1, 2, 2, 3, 1, -1, 2, 0);
    x.write(0);
    x.seen(20, 1);
    x.fault(1, 3);
  }

  private static void begunEarly(LightScript x) {
    begun(x);
    x.kind(0, 21, 50, 5, 20012);
  }

  private static void begunNoBarge(LightScript x) {
    desk(x);
    x.begin();
    x.kind(0, 21, 50, 5, 20012);
    x.seen(20, 1);
  }

  public static void main(String[] args) {
    theDeskIsManifold();
    placeRefused();
    kindRefused();
    askedOfThePlace();
    writeRefused();
    stretchRefused();
    layRefused();
    proofRefused();
    cuesAsked();
    toldRefused();
    holdRefused();
    fullRefused();
    showAsked();
    seenRefused();
    tapeRefused();
    backRefused();
    putAndCopyRefused();
    firstNamedIsAnswered();
    System.out.println(wrong == 0 ? "all answers are as due" : wrong + " answers are not as due");
    if (wrong != 0) {
      System.exit(1);
    }
  }

  /** Were the desk dull, what changes might not be seen. */
  private static void theDeskIsManifold() {
    LightScript x = new LightScript();
    desk(x);
    int[] fates = {6, 6, 0, 3, 5, 0};
    for (int c = 0; c < 6; c++) {
      due("fate(" + c + ")", x.fate(c), fates[c]);
    }
    due("count(2)", x.count(2), 6);
    due("count(3)", x.count(3), 2);
    due("count(7)", x.count(7), 0);
    due("SEEN", x.count(6), 3);
    due("knows", x.knows(24), 1);
    due("knows", x.knows(25), 3);
  }

  private static void placeRefused() {
    Desk desk = RefusedTest::desk;
    for (int no : new int[] {-1, 32, MIN, MAX}) {
      dueRefused("cell x " + no, desk, -1, x -> x.cell(no, 3, 2));
      dueRefused("cell y " + no, desk, -1, x -> x.cell(3, no, 2));
      dueRefused("barge x " + no, desk, -1, x -> x.barge(0, no, 9, 9));
      dueRefused("barge y " + no, desk, -1, x -> x.barge(1, 9, no, 9));
    }
    for (int no : new int[] {-1, 3, MAX}) {
      dueRefused("cell what " + no, desk, -1, x -> x.cell(12, 12, no));
    }
    for (int no : new int[] {-1, 6}) {
      dueRefused("barge " + no, desk, -1, x -> x.barge(no, 9, 9, 9));
    }
    for (int no : new int[] {0, 41}) {
      dueRefused("barge of " + no, desk, -1, x -> x.barge(0, 9, 9, no));
      dueRefused("barge not told, of " + no, desk, -1, x -> x.barge(3, 9, 9, no));
    }
    for (int no : new int[] {-1, 4}) {
      dueRefused("wind " + no, desk, -1, x -> x.wind(no, 0, 40, 40));
    }
    for (int no : new int[] {-1, 5}) {
      dueRefused("wind layer " + no, desk, -1, x -> x.wind(0, no, 40, 40));
      dueRefused("wind layer " + no, desk, -1, x -> x.wind(3, no, 40, 40));
    }
    for (int no : new int[] {-51, 51, MIN, MAX}) {
      for (int w = 0; w < 4; w++) {
        int wind = w;
        dueRefused("wind dx " + no, desk, -1, x -> x.wind(wind, wind, no, 50));
        dueRefused("wind dy " + no, desk, -1, x -> x.wind(wind, 4 - wind, 50, no));
      }
    }
    for (int no : new int[] {-1, 21, MIN, MAX}) {
      dueRefused("apart " + no, desk, -1, x -> x.apart(no));
    }
  }

  private static void kindRefused() {
    Desk desk = RefusedTest::desk;
    for (int no : new int[] {-1, 12, MIN, MAX}) {
      dueRefused("kind " + no, desk, -1, x -> x.kind(no, 3, 77, 7, 30040));
    }
    for (int k : new int[] {0, 2, 5}) {
      for (int no : new int[] {0, 61}) {
        dueRefused("kind lift " + no, desk, -1, x -> x.kind(k, no, 77, 7, 30040));
      }
      for (int no : new int[] {9, 301}) {
        dueRefused("kind height " + no, desk, -1, x -> x.kind(k, 3, no, 7, 30040));
      }
      for (int no : new int[] {-1, 61}) {
        dueRefused("kind spread " + no, desk, -1, x -> x.kind(k, 3, 77, no, 30040));
      }
      for (int no : new int[] {40, 100040, 30000, 30100, 30046, -30040, MIN, MAX}) {
        dueRefused("kind rest " + no, desk, -1, x -> x.kind(k, 3, 77, 7, no));
      }
    }
    dueRefused("kind EARLY", desk, -5, x -> x.kind(0, 21, 77, 7, 30040));
    dueRefused("kind EARLY", desk, -5, x -> x.kind(2, 31, 77, 7, 30040));
    dueRefused("kind EARLY", RefusedTest::earlyAndFull, -5, x -> x.kind(0, 6, 77, 7, 30040));
    dueRefused("kind NONE, EARLY too", desk, -1, x -> x.kind(0, 21, 301, 7, 30040));
  }

  private static void askedOfThePlace() {
    Desk desk = RefusedTest::desk;
    dueRefused("may", desk, 1, x -> x.may(0, 0));
    dueRefused("may", desk, -1, x -> x.may(2, 0));
    dueRefused("may", desk, -1, x -> x.may(0, 3));
    dueRefused("safe", desk, 1, x -> x.safe(0, 0, 0, 0));
    dueRefused("safe", desk, -1, x -> x.safe(3, 0, 0, 0));
    dueRefused("safe", desk, -1, x -> x.safe(0, 2, 0, 0));
    dueRefused("safe", desk, -1, x -> x.safe(0, 0, 5, 0));
    dueRefused("safe", desk, -1, x -> x.safe(0, 0, 0, 4));
    dueRefused("hot", desk, 330, x -> x.hot(2, 0, 0, 0, 0));
    dueRefused("hot", desk, -1, x -> x.hot(0, 0, 0, 0, 5));
    dueRefused("hot", desk, -1, x -> x.hot(0, 0, 0, -1, 0));
    dueRefused("count", desk, 6, x -> x.count(2));
    dueRefused("count", desk, -1, x -> x.count(8));
  }

  private static void writeRefused() {
    Desk desk = RefusedTest::desk;
    for (int no : new int[] {-1, 6, MIN, MAX}) {
      dueRefused("write(" + no + ")", desk, -1, x -> x.write(no));
    }
    dueRefused("write NOTHING", desk, -11, x -> x.write(5));
    dueRefused("write shorts", desk, -12, x -> x.write(2));
    dueRefused("write a SHOW", desk, -12, x -> x.write(3));
    dueRefused("write longs", desk, -12, x -> x.write(4));
    dueRefused("write a RULE", desk, -100, x -> x.write(1));
    int[][] faults = {{9}, {1, 0, 0, 0, 0}, {2, 2, 1, 0, 0, 0, 1, 9, 0, 0, 0}, {2, 2, 3, 0, -1, 4},
        {2, 2, 6, 2, 3, 0, -1, 4, 0}, {2, 2, 4, 0, 0, 1, 50, 7, 0}, {}};
    int[] places = {0, 0, 6, 6, 8, 7, 0};
    for (int i = 0; i < faults.length; i++) {
      int[] row = faults[i];
      dueRefused("write fault " + i, x -> {
        desk(x);
        row(x, 5, 1, row);
      }, -100 - places[i], x -> x.write(5));
    }
    // Each but the last is well, so a draft of 120 CUES is thrown away.
    dueRefused("write the 121st", x -> {
      desk(x);
      row(x, 5, 1, 2, 2, 6, 8, 6, 5, 3, 1, 0, 3, 7, 7, 1, 0, 0, 0, 0);
    }, -112, x -> x.write(5));
  }

  private static void stretchRefused() {
    Desk desk = RefusedTest::desk;
    for (int no : new int[] {-1, 20001, MIN, MAX}) {
      dueRefused("stretch f " + no, desk, -1, x -> x.stretch(no, 2, 1));
    }
    for (int no : new int[] {-1, 0, 101, MIN, MAX}) {
      dueRefused("stretch p " + no, desk, -1, x -> x.stretch(0, no, 2));
      dueRefused("stretch q " + no, desk, -1, x -> x.stretch(0, 2, no));
    }
    dueRefused("stretch EARLY", desk, -5, x -> x.stretch(0, 1, 10));
    dueRefused("stretch EARLY of one", desk, -5, x -> x.stretch(0, 29, 100));
    dueRefused("stretch EARLY", RefusedTest::earlyAndFull, -5, x -> x.stretch(0, 99, 100));
    dueRefused("stretch FULL", RefusedTest::earlyAndFull, -2, x -> x.stretch(0, 100, 99));
    dueRefused("stretch FULL", RefusedTest::earlyAndFull, -2, x -> x.stretch(19900, 2, 1));
    dueRefused("stretch that changes none", desk, 0, x -> x.stretch(0, 7, 7));
  }

  private static void layRefused() {
    for (int no : new int[] {-1, 5, MIN, MAX}) {
      dueRefused("lay(" + no + ")", RefusedTest::desk, -1, x -> x.lay(no));
      dueRefused("lay(" + no + ") of nine", RefusedTest::nineOpen, -1, x -> x.lay(no));
    }
    dueRefused("lay SPENT", RefusedTest::nineOpen, -4, x -> x.lay(0));
    dueRefused("lay SPENT", RefusedTest::nineOpen, -4, x -> x.lay(4));
    dueRefused("lay UNABLE", RefusedTest::noLaying, -3, x -> x.lay(0));
    dueRefused("lay UNABLE", RefusedTest::noLaying, -3, x -> x.lay(4));
  }

  private static void proofRefused() {
    Desk desk = RefusedTest::desk;
    for (int no : new int[] {-1, 6}) {
      dueRefused("proof(" + no + ")", desk, -1, x -> x.proof(no, 0));
    }
    for (int no : new int[] {-1, 5}) {
      dueRefused("proof n " + no, desk, -1, x -> x.proof(0, no));
    }
    dueRefused("proof SPENT", RefusedTest::nineOpen, -4, x -> x.proof(0, 0));
    dueRefused("proof NOTHING", desk, -11, x -> x.proof(5, 0));
    dueRefused("proof CAST", desk, -12, x -> x.proof(2, 0));
    dueRefused("proof CAST", desk, -12, x -> x.proof(3, 0));
    dueRefused("proof fault", RefusedTest::noLaying, -101, x -> x.proof(5, 0));
    dueRefused("proof PLACE", x -> {
      desk(x);
      row(x, 5, 1, 0);
    }, -13, x -> x.proof(5, 0));
    dueRefused("proof of a LAYING", x -> {
      desk(x);
      row(x, 5, 1, 1, 0);
    }, 3, x -> x.proof(5, 0));
  }

  private static void cuesAsked() {
    Desk desk = RefusedTest::desk;
    dueRefused("cue", desk, 20, x -> x.cue(0, 0));
    dueRefused("cue", desk, IAE, x -> x.cue(0, 5));
    dueRefused("cue", desk, IAE, x -> x.cue(6, -1));
    dueRefused("cue", desk, ISE, x -> x.cue(6, 0));
    dueRefused("cue", desk, ISE, x -> x.cue(-1, 4));
    for (int no : new int[] {-1, 6, 120, MIN, MAX}) {
      dueRefused("place " + no, desk, -1, x -> x.place(no, 0));
      dueRefused("place " + no, desk, -1, x -> x.place(no, -1));
    }
    for (int no : new int[] {-2, 2, 5, 6, MIN, MAX}) {
      dueRefused("place on " + no, desk, -1, x -> x.place(0, no));
      dueRefused("place on " + no, desk, -1, x -> x.place(2, no));
    }
  }

  private static void toldRefused() {
    Desk desk = RefusedTest::desk;
    for (int no : new int[] {-1, 4}) {
      dueRefused("meter " + no, desk, -1, x -> x.meter(no, 0, 0));
    }
    dueRefused("meter from", desk, -1, x -> x.meter(2, -1, 0));
    dueRefused("meter from", desk, -1, x -> x.meter(2, 20001, 20001));
    dueRefused("meter known", desk, -1, x -> x.meter(2, 0, 20001));
    dueRefused("meter known ahead", desk, -1, x -> x.meter(2, 20, 19));
    dueRefused("knows", desk, 1, x -> x.knows(20));
    dueRefused("knows", desk, -1, x -> x.knows(20001));
    for (int no : new int[] {-1, 6, 120}) {
      dueRefused("fault of " + no, desk, -1, x -> x.fault(no, 3));
    }
    for (int no : new int[] {-1, 7, MIN, MAX}) {
      dueRefused("fault " + no, desk, -1, x -> x.fault(4, no));
      dueRefused("fault " + no, desk, -1, x -> x.fault(0, no));
    }
    for (int no : new int[] {-2, 20001, MIN, MAX}) {
      dueRefused("halt " + no, desk, -1, x -> x.halt(no));
    }
  }

  private static void holdRefused() {
    Desk desk = RefusedTest::desk;
    for (int no : new int[] {-1, 6, MIN, MAX}) {
      dueRefused("hold(" + no + ")", desk, -1, x -> x.hold(no));
    }
    dueRefused("hold NOTHING", desk, -11, x -> x.hold(5));
    dueRefused("hold shorts", desk, -12, x -> x.hold(2));
    dueRefused("hold a SHOW", desk, -12, x -> x.hold(3));
    dueRefused("hold longs", desk, -12, x -> x.hold(4));
    int[][] faults = {{}, {0}, {1, 0}, {1, 0, 1, 0, 0}, {1, 0, 6, 0}, {9, 0}, {1, 0, 1, -1, 0}};
    int[] places = {0, 0, 2, 4, 2, 0, 2};
    for (int i = 0; i < faults.length; i++) {
      int[] row = faults[i];
      dueRefused("hold fault " + i, x -> {
        desk(x);
        row(x, 5, 1, row);
      }, -100 - places[i], x -> x.hold(5));
    }
    dueRefused("hold more than 20 ORDERS", x -> {
      desk(x);
      int[] row = new int[23];
      row[0] = 1;
      java.util.Arrays.fill(row, 2, 22, 8);
      row(x, 5, 1, row);
    }, -2, x -> x.hold(5));
  }

  private static void fullRefused() {
    Desk full = RefusedTest::allFull;
    dueRefused("meter FULL", full, -2, x -> x.meter(3, 15, 15));
    dueRefused("hold FULL", full, -2, x -> x.hold(1));
    dueRefused("seen FULL", full, -2, x -> x.seen(20, 1));
    dueRefused("meter NONE", full, -1, x -> x.meter(3, 15, 14));
    dueRefused("hold CAST", full, -12, x -> x.hold(2));
    dueRefused("seen NONE", full, -1, x -> x.seen(20, 10));
  }

  private static void showAsked() {
    Desk desk = RefusedTest::desk;
    dueRefused("fate", desk, 6, x -> x.fate(0));
    dueRefused("fate", desk, -1, x -> x.fate(6));
    dueRefused("goes", desk, IAE, x -> x.goes(6, 0));
    dueRefused("goes", desk, IAE, x -> x.goes(0, 3));
    dueRefused("goes", desk, ISE, x -> x.goes(0, 0));
    dueRefused("many", desk, 2, x -> x.many(6));
    dueRefused("many", desk, -1, x -> x.many(7));
    dueRefused("order", desk, -1, x -> x.order(6));
    dueRefused("order", desk, 0, x -> x.order(0));
    dueRefused("duds", desk, x0(desk).duds(), x -> x.duds());
    dueRefused("strange", desk, x0(desk).strange(), x -> x.strange());
    dueRefused("dud", desk, -2, x -> x.dud(0));
    dueRefused("dud", desk, -1, x -> x.dud(6));
  }

  private static LightScript x0(Desk desk) {
    LightScript x = new LightScript();
    desk.make(x);
    return x;
  }

  private static void seenRefused() {
    Desk desk = RefusedTest::desk;
    for (int no : new int[] {-1, 20011, MIN, MAX}) {
      dueRefused("seen at " + no, desk, -1, x -> x.seen(no, 1));
    }
    for (int no : new int[] {-1, 0, 10, MIN, MAX}) {
      dueRefused("seen of " + no, desk, -1, x -> x.seen(30, no));
    }
  }

  private static void tapeRefused() {
    Desk desk = RefusedTest::desk;
    for (int no : new int[] {-1, 6, MIN, MAX}) {
      dueRefused("tape(" + no + ")", desk, -1, x -> x.tape(no, 1, 5));
      dueRefused("keep(" + no + ")", desk, -1, x -> x.keep(no));
      dueRefused("clear(" + no + ")", desk, -1, x -> x.clear(no));
      dueRefused("toss(" + no + ")", desk, -1, x -> x.toss(no));
      dueRefused("at(" + no + ")", desk, IAE, x -> x.at(no, 0));
    }
    for (int d = 0; d < 6; d++) {
      int tape = d;
      for (int no : new int[] {-1, 0, 5, MAX}) {
        dueRefused("tape of sort " + no, desk, -1, x -> x.tape(tape, no, 5));
      }
      dueRefused("tape of 101", desk, -1, x -> x.tape(tape, 1, 101));
      dueRefused("tape of -1", desk, -14, x -> x.tape(tape, 1, -1));
      dueRefused("tape of least", desk, -14, x -> x.tape(tape, 4, MIN));
      dueRefused("at", desk, ISE, x -> x.at(tape, 100));
      dueRefused("at", desk, ISE, x -> x.at(tape, -1));
    }
    dueRefused("clear nothing", desk, 0, x -> x.clear(5));
    dueRefused("toss NOTHING", desk, -11, x -> x.toss(5));
    dueRefused("toss bytes", desk, -12, x -> x.toss(0));
    dueRefused("toss longs", desk, -12, x -> x.toss(4));
    dueRefused("toss THROWN", desk, -15, x -> x.toss(3));
    dueRefused("toss", x -> {
      desk(x);
      x.keep(5);
    }, 2, x -> x.toss(5));
  }

  private static void backRefused() {
    Desk desk = RefusedTest::desk;
    for (int no : new int[] {-1, 6, MIN, MAX}) {
      dueRefused("back(" + no + ")", desk, -1, x -> x.back(no));
    }
    dueRefused("back NOTHING", desk, -11, x -> x.back(5));
    for (int d : new int[] {0, 2, 4}) {
      dueRefused("back of a row", desk, -12, x -> x.back(d));
    }
    dueRefused("back UNABLE, no KIND", RefusedTest::begun, -3, x -> x.back(3));
    dueRefused("back UNABLE, no BARGE, EARLY too", RefusedTest::begunNoBarge, -3, x -> x.back(3));
    dueRefused("back EARLY", RefusedTest::begunEarly, -5, x -> x.back(3));
  }

  private static void putAndCopyRefused() {
    Desk desk = RefusedTest::desk;
    for (int no : new int[] {-1, 6, MIN, MAX}) {
      dueRefused("put(" + no + ")", desk, -1, x -> x.put(no, 0, 9));
      dueRefused("copy(" + no + ")", desk, -1, x -> x.copy(no, 0, 0, 0, 1));
      dueRefused("copy to " + no, desk, -1, x -> x.copy(0, 0, no, 0, 1));
    }
    dueRefused("put NOTHING", desk, -11, x -> x.put(5, 0, 9));
    dueRefused("put CAST", desk, -12, x -> x.put(3, 0, 9));
    for (int no : new int[] {-1, 3, 100, MIN, MAX}) {
      dueRefused("put PLACE", desk, -13, x -> x.put(2, no, 9));
    }
    dueRefused("copy NOTHING", desk, -11, x -> x.copy(5, 0, 0, 0, 1));
    dueRefused("copy NOTHING", desk, -11, x -> x.copy(0, 0, 5, 0, 1));
    dueRefused("copy CAST", desk, -12, x -> x.copy(0, 0, 2, 0, 1));
    dueRefused("copy CAST", desk, -12, x -> x.copy(4, 0, 2, 0, 1));
    dueRefused("copy CAST", desk, -12, x -> x.copy(3, 0, 0, 0, 1));
    dueRefused("copy CAST", desk, -12, x -> x.copy(0, 0, 3, 0, 1));
    dueRefused("copy PLACE n", desk, -13, x -> x.copy(0, 0, 1, 0, -1));
    dueRefused("copy PLACE i", desk, -13, x -> x.copy(0, -1, 1, 0, 2));
    dueRefused("copy PLACE j", desk, -13, x -> x.copy(0, 0, 1, -1, 2));
    dueRefused("copy PLACE from", desk, -13, x -> x.copy(1, 3, 0, 0, 4));
    dueRefused("copy PLACE to", desk, -13, x -> x.copy(0, 0, 1, 3, 4));
    dueRefused("copy PLACE in itself", desk, -13, x -> x.copy(4, 0, 4, 1, 4));
    dueRefused("copy none", desk, 0, x -> x.copy(0, 0, 1, 0, 0));
  }

  // "Of several refusals the one that is named first in a method's words is answered."
  private static void firstNamedIsAnswered() {
    Desk nine = RefusedTest::nineOpen;
    // kind: NONE, EARLY.
    Desk edge = RefusedTest::earlyAndFull;
    dueRefused("kind NONE, EARLY", edge, -1, x -> x.kind(0, 61, 77, 7, 30040));
    dueRefused("kind NONE, EARLY", edge, -1, x -> x.kind(0, 6, 9, 7, 30040));
    dueRefused("kind NONE, EARLY", edge, -1, x -> x.kind(0, 6, 77, 61, 30040));
    dueRefused("kind NONE, EARLY", edge, -1, x -> x.kind(0, 6, 77, 7, 30006));
    // cue, goes: IllegalArgumentException, IllegalStateException.
    dueRefused("cue", edge, IAE, x -> x.cue(2, 5));
    dueRefused("cue", edge, IAE, x -> x.cue(-1, -1));
    dueRefused("goes", nine, IAE, x -> x.goes(0, 3));
    dueRefused("goes", nine, IAE, x -> x.goes(10, 3));
    // stretch: NONE, EARLY, FULL; the last two can't be so at once.
    dueRefused("stretch NONE, EARLY", edge, -1, x -> x.stretch(-1, 1, 2));
    dueRefused("stretch NONE, FULL", edge, -1, x -> x.stretch(-1, 2, 1));
    dueRefused("stretch NONE, FULL", edge, -1, x -> x.stretch(0, 101, 1));
    dueRefused("stretch NONE, EARLY", edge, -1, x -> x.stretch(0, 1, 101));
    // lay: NONE, SPENT, UNABLE.
    dueRefused("lay NONE, SPENT", nine, -1, x -> x.lay(5));
    dueRefused("lay NONE, UNABLE", RefusedTest::noLaying, -1, x -> x.lay(-1));
    Desk nineUnable = x -> {
      nineOpen(x);
      x.apart(20);
      x.barge(0, 10, 10, 1);
      x.barge(1, 20, 20, 1);
    };
    dueRefused("lay NONE, SPENT, UNABLE", nineUnable, -1, x -> x.lay(5));
    dueRefused("lay SPENT, UNABLE", nineUnable, -4, x -> x.lay(4));
    // proof: a fault; NONE, SPENT, NOTHING, CAST, PLACE.
    dueRefused("proof NONE, SPENT, NOTHING", nine, -1, x -> x.proof(5, 5));
    dueRefused("proof NONE, SPENT", nine, -1, x -> x.proof(6, 0));
    dueRefused("proof NONE, NOTHING", RefusedTest::desk, -1, x -> x.proof(5, -1));
    dueRefused("proof NONE, CAST", RefusedTest::desk, -1, x -> x.proof(2, -1));
    dueRefused("proof SPENT, NOTHING", nine, -4, x -> x.proof(5, 0));
    dueRefused("proof SPENT, CAST", nine, -4, x -> x.proof(2, 0));
    dueRefused("proof SPENT, CAST", nine, -4, x -> x.proof(3, 0));
    dueRefused("proof SPENT, a fault or PLACE", nine, -4, x -> x.proof(1, 0));
    dueRefused("proof CAST, PLACE", x -> {
      desk(x);
      x.tape(5, 2, 0);
    }, -12, x -> x.proof(5, 0));
    dueRefused("proof a fault, PLACE", x -> {
      desk(x);
      row(x, 5, 1, 2);
    }, -100, x -> x.proof(5, 0));
    // meter, seen: NONE, FULL. hold: NONE, NOTHING, CAST, a fault, FULL.
    Desk full = RefusedTest::allFull;
    dueRefused("meter NONE, FULL", full, -1, x -> x.meter(4, 0, 0));
    dueRefused("meter NONE, FULL", full, -1, x -> x.meter(0, 0, 20001));
    dueRefused("seen NONE, FULL", full, -1, x -> x.seen(20011, 1));
    dueRefused("hold NONE, FULL", full, -1, x -> x.hold(6));
    dueRefused("hold NOTHING, FULL", full, -11, x -> x.hold(5));
    dueRefused("hold CAST, FULL", full, -12, x -> x.hold(4));
    dueRefused("hold a fault, FULL", full, -104, x -> x.hold(0));
    // tape: NONE, SIZE. put: NONE, NOTHING, CAST, PLACE. at: the two exceptions.
    Desk desk = RefusedTest::desk;
    dueRefused("tape NONE, SIZE", desk, -1, x -> x.tape(6, 1, -1));
    dueRefused("tape NONE, SIZE", desk, -1, x -> x.tape(0, 5, -1));
    dueRefused("put NONE, PLACE", desk, -1, x -> x.put(6, -1, 9));
    dueRefused("put NOTHING, PLACE", desk, -11, x -> x.put(5, -1, 9));
    dueRefused("put CAST, PLACE", desk, -12, x -> x.put(3, 100, 9));
    dueRefused("at", desk, IAE, x -> x.at(6, -1));
    dueRefused("at", desk, IAE, x -> x.at(-1, 100));
    // back: NONE, NOTHING, CAST, UNABLE, EARLY: one CUE lacks its BARGE, another's KIND is EARLY.
    dueRefused("back UNABLE, EARLY", x -> {
      desk(x);
      row(x, 5, 1, 2, 2, 1, 0, 0, 0, 1, 1, 1, 0, 0);
      x.write(5);
      x.keep(5);
      x.begin();
      x.kind(0, 60, 50, 0, 1010);
      x.kind(1, 4, 50, 0, 1010);
      x.barge(0, 10, 10, 5);
    }, -3, x -> x.back(5));
    // copy: NONE, NOTHING, CAST, PLACE.
    dueRefused("copy NONE, NOTHING", desk, -1, x -> x.copy(5, 0, 6, 0, 1));
    dueRefused("copy NONE, CAST", desk, -1, x -> x.copy(-1, 0, 3, 0, 1));
    dueRefused("copy NONE, PLACE", desk, -1, x -> x.copy(0, -1, 6, -1, -1));
    dueRefused("copy NOTHING, CAST", desk, -11, x -> x.copy(3, 0, 5, 0, 1));
    dueRefused("copy NOTHING, CAST", desk, -11, x -> x.copy(5, 0, 3, 0, 1));
    dueRefused("copy NOTHING, PLACE", desk, -11, x -> x.copy(0, -1, 5, -1, -1));
    dueRefused("copy CAST, PLACE", desk, -12, x -> x.copy(0, -1, 2, 0, 1));
    dueRefused("copy CAST, PLACE", desk, -12, x -> x.copy(3, -1, 3, 0, -1));
  }
}
