// Promises 11 to 13 and 16: write, cue, stretch, place.
public final class CueTest {
  private static final long IAE = Long.MIN_VALUE;
  private static final long ISE = Long.MIN_VALUE + 1;
  private static int wrong = 0;

  private static void due(String call, long got, long want) {
    if (got != want) {
      wrong++;
      System.out.println(call + " answered " + got + ", due is " + want);
    }
  }

  private static long cue(LightScript x, int c, int what) {
    try {
      return x.cue(c, what);
    } catch (IllegalArgumentException e) {
      return IAE;
    } catch (IllegalStateException e) {
      return ISE;
    }
  }

  private static int write(LightScript x, int... row) {
    x.tape(0, 1, row.length);
    for (int i = 0; i < row.length; i++) {
      x.put(0, i, row[i]);
    }
    return x.write(0);
  }

  private static void dueCue(String name, LightScript x, int c, int... want) {
    for (int what = 0; what < want.length; what++) {
      due(name + ": cue(" + c + ", " + what + ")", cue(x, c, what), want[what]);
    }
  }

  private static void dueBursts(String name, LightScript x, int... want) {
    due(name + ": cues", x.count(2), want.length);
    for (int c = 0; c < want.length; c++) {
      due(name + ": burst of " + c, cue(x, c, 0), want[c]);
    }
  }

  /** KINDS 0 (LIFT 5) and 11 (LIFT 60); BARGES 0, 1, 2 and 4. */
  private static LightScript desk() {
    LightScript x = new LightScript();
    x.kind(0, 5, 50, 0, 1010);
    x.kind(11, 60, 50, 0, 1020);
    x.barge(0, 5, 5, 9);
    x.barge(1, 10, 5, 9);
    x.barge(2, 15, 5, 9);
    x.barge(4, 20, 5, 9);
    return x;
  }

  public static void main(String[] args) {
    writeRefused();
    writeEnds();
    orderOne();
    orderTwo();
    orderThree();
    orderFour();
    orderFive();
    orderSix();
    orderEight();
    limits();
    asTheyCome();
    whatWriteTakesAway();
    cueRefused();
    stretch();
    stretchRefused();
    place();
    System.out.println(wrong == 0 ? "all answers are as due" : wrong + " answers are not as due");
    if (wrong != 0) {
      System.exit(1);
    }
  }

  private static void writeRefused() {
    LightScript x = desk();
    due("write", x.write(-1), -1);
    due("write", x.write(6), -1);
    due("write", x.write(5), -11);
    for (int sort = 2; sort <= 4; sort++) {
      x.tape(5, sort, 5);
      due("write", x.write(5), -12);
    }
    x.keep(5);
    due("write", x.write(5), -12);
    due("count(7)", x.count(7), 5);
    due("write fault", write(x, 9), -100);
    due("count(7)", x.count(7), 5);
  }

  private static void writeEnds() {
    LightScript x = desk();
    due("write nothing", write(x, 0), 0);
    due("write, no row at all", write(x), -100);
    due("write, no end", write(x, 2, 1), -102);
    due("write, no end in a loop", write(x, 6, 2, 2, 1), -104);
    due("write, more behind the end", write(x, 0, 9, 9), 0);
    due("write, no order", write(x, 2, 1, 9, 0), -102);
    due("write, no order", write(x, 2, 1, -1, 0), -102);
    due("write, no order", write(x, -128), -100);
    due("write, no order", write(x, 127), -100);
    due("write, a stray 7", write(x, 2, 1, 7, 0), -102);
    due("write, a 0 in a loop", write(x, 6, 2, 0, 7, 0), -102);
    due("write, a second stray 7", write(x, 6, 2, 7, 7, 0), -103);
    int[] longest = new int[100];
    for (int i = 0; i < 98; i += 2) {
      longest[i] = 2;
      longest[i + 1] = 1;
    }
    due("write, a long row", write(x, longest), 0);
    longest[98] = 2;
    longest[99] = 1;
    due("write, a long row without end", write(x, longest), -200);
  }

  private static void orderOne() {
    LightScript x = desk();
    due("1", write(x, 2, 1, 1, 0, 0, 4, 1, 0, -1, -4, 1, 0, 4, 0, 0), 3);
    dueCue("1", x, 0, 10, 0, 0, 4, 5);
    dueCue("1", x, 1, 10, 0, -1, -4, 5);
    dueCue("1", x, 2, 10, 0, 4, 0, 5);
    due("count", x.count(3), 1);
    due("1 angle", write(x, 2, 1, 1, 0, 0, 5, 0), -102);
    due("1 angle", write(x, 2, 1, 1, 0, 0, -5, 0), -102);
    due("1 kind", write(x, 2, 1, 1, 1, 0, 0, 0), -102);
    due("1 kind", write(x, 2, 1, 1, -1, 0, 0, 0), -102);
    due("1 kind", write(x, 2, 1, 1, 12, 0, 0, 0), -102);
    due("1 barge", write(x, 2, 1, 1, 0, 3, 0, 0), -102);
    due("1 barge", write(x, 2, 1, 1, 0, -2, 0, 0), -102);
    due("1 barge", write(x, 2, 1, 1, 0, 6, 0, 0), -102);
    due("1 lacks", write(x, 2, 1, 1, 0, 0), -102);
    due("1 lacks", write(x, 2, 1, 1), -102);
    due("1 has all but no end", write(x, 2, 1, 1, 0, 0, 0), -106);
    due("1 fires below 0", write(x, 1, 0, 0, 0, 0), -100);
    due("1 fires at 0", write(x, 8, 5, 2, 1, 1, 0, 0, 0, 0), 1);
    due("1 fires below 0", write(x, 8, 4, 2, 1, 1, 0, 0, 0, 0), -104);
    due("1 fires below 0", write(x, 8, 59, 2, 1, 1, 11, 0, 0, 0), -100);
    due("1 fires at 0", write(x, 8, 30, 2, 2, 1, 11, 0, 0, 0), 1);
    dueCue("1", x, 0, 60, 11, 0, 0, 0);
  }

  private static void orderTwo() {
    LightScript x = desk();
    due("2", write(x, 2, 50, 1, 0, 0, 0, 2, 1, 1, 0, 0, 0, 0), 2);
    dueBursts("2", x, 500, 510);
    due("2 none", write(x, 2, 0, 0), -100);
    due("2 many", write(x, 2, 51, 0), -100);
    due("2 below", write(x, 2, -1, 0), -100);
    due("2 lacks", write(x, 2), -100);
    due("2 lacks", write(x, 2, 1, 2), -102);
  }

  private static void orderThree() {
    LightScript x = desk();
    due("3", write(x, 2, 2, 3, 0, -1, 5, 0), 5);
    for (int i = 0; i < 5; i++) {
      dueCue("3 of 5", x, i, 20, 0, -1, 2 * i - 4, 15);
    }
    due("3", write(x, 2, 2, 3, 0, 1, 4, 0), 4);
    for (int i = 0; i < 4; i++) {
      dueCue("3 of 4", x, i, 20, 0, 1, 2 * i - 3, 15);
    }
    due("3", write(x, 2, 2, 3, 0, 1, 1, 0), 1);
    dueCue("3 of 1", x, 0, 20, 0, 1, 0, 15);
    due("3 none", write(x, 2, 2, 3, 0, 1, 0, 0), -102);
    due("3 many", write(x, 2, 2, 3, 0, 1, 6, 0), -102);
    due("3 kind", write(x, 2, 2, 3, 2, 1, 1, 0), -102);
    due("3 barge", write(x, 2, 2, 3, 0, 3, 1, 0), -102);
    due("3 barge", write(x, 2, 2, 3, 0, -2, 1, 0), -102);
    due("3 lacks", write(x, 2, 2, 3, 0, 1), -102);
    due("3 fires below 0", write(x, 3, 0, 1, 1, 0), -100);
  }

  private static void orderFour() {
    LightScript x = desk();
    due("4", write(x, 2, 1, 4, 0, 0, 2, 3, 1, 0, 4, 1, 0), 4);
    dueCue("4 up", x, 0, 10, 0, 0, 0, 5);
    dueCue("4 up", x, 1, 40, 0, 1, 0, 35);
    dueCue("4 up", x, 2, 70, 0, 2, 0, 65);
    dueCue("4 doesn't move now", x, 3, 10, 0, 4, 1, 5);
    due("4", write(x, 8, 7, 2, 1, 4, 0, 2, 0, 50, 0), 3);
    dueCue("4 down", x, 0, 7, 0, 2, 0, 2);
    dueCue("4 down", x, 1, 357, 0, 1, 0, 352);
    dueCue("4 down", x, 2, 707, 0, 0, 0, 702);
    due("4 alone, at once", write(x, 2, 1, 4, 0, 4, 4, 0, 0), 1);
    dueCue("4 alone", x, 0, 10, 0, 4, 0, 5);
    due("4 at once", write(x, 2, 1, 4, 0, 1, 2, 0, 0), 2);
    dueBursts("4 at once", x, 10, 10);
    due("4 beats", write(x, 2, 1, 4, 0, 0, 2, 51, 0), -102);
    due("4 beats", write(x, 2, 1, 4, 0, 0, 2, -1, 0), -102);
    due("4 open", write(x, 2, 1, 4, 0, -1, 2, 1, 0), -102);
    due("4 open", write(x, 2, 1, 4, 0, 2, -1, 1, 0), -102);
    due("4 barge", write(x, 2, 1, 4, 0, 3, 2, 1, 0), -102);
    due("4 barge", write(x, 2, 1, 4, 0, 2, 3, 1, 0), -102);
    due("4 barge", write(x, 2, 1, 4, 0, 6, 4, 1, 0), -102);
    due("4 barge", write(x, 2, 1, 4, 0, 4, 6, 1, 0), -102);
    due("4 a barge between isn't told", write(x, 2, 1, 4, 0, 2, 4, 1, 0), -102);
    due("4 a barge between isn't told", write(x, 2, 1, 4, 0, 4, 2, 1, 0), -102);
    due("4 kind", write(x, 2, 1, 4, 1, 0, 2, 1, 0), -102);
    due("4 lacks", write(x, 2, 1, 4, 0, 0, 2), -102);
    due("4 fires below 0", write(x, 4, 0, 0, 2, 1, 0), -100);
    x.barge(3, 1, 1, 1);
    due("4 now it is", write(x, 2, 1, 4, 0, 4, 2, 1, 0), 3);
    dueBursts("4 now it is", x, 10, 20, 30);
  }

  private static void orderFive() {
    LightScript x = desk();
    due("5", write(x, 2, 1, 5, 0, 4, 0, 2, 1, 0, 1, 3, 0), 3);
    dueCue("5 first", x, 0, 10, 0, 4, 0, 5);
    dueCue("5 second", x, 1, 30, 0, 0, 0, 25);
    dueCue("5 doesn't move now", x, 2, 10, 0, 1, 3, 5);
    due("5", write(x, 2, 1, 5, 0, 2, 2, 0, 0), 2);
    dueCue("5 alike", x, 0, 10, 0, 2, 0, 5);
    dueCue("5 alike", x, 1, 10, 0, 2, 0, 5);
    due("5 most beats", write(x, 8, 50, 2, 1, 5, 0, 0, 1, 50, 0), 2);
    dueBursts("5 most beats", x, 50, 2550);
    due("5 beats", write(x, 2, 1, 5, 0, 0, 1, 51, 0), -102);
    due("5 beats", write(x, 2, 1, 5, 0, 0, 1, -1, 0), -102);
    due("5 open", write(x, 2, 1, 5, 0, -1, 1, 1, 0), -102);
    due("5 open", write(x, 2, 1, 5, 0, 1, -1, 1, 0), -102);
    due("5 barge", write(x, 2, 1, 5, 0, 3, 1, 1, 0), -102);
    due("5 barge", write(x, 2, 1, 5, 0, 1, 3, 1, 0), -102);
    due("5 kind", write(x, 2, 1, 5, 7, 0, 1, 1, 0), -102);
    due("5 lacks", write(x, 2, 1, 5, 0, 0, 1), -102);
    due("5 fires below 0", write(x, 5, 0, 0, 1, 1, 0), -100);
  }

  private static void orderSix() {
    LightScript x = desk();
    due("6", write(x, 6, 3, 2, 1, 1, 0, 0, 0, 7, 0), 3);
    dueBursts("6", x, 10, 20, 30);
    due("6 most times", write(x, 6, 9, 2, 1, 1, 0, 0, 0, 7, 0), 9);
    due("6 once", write(x, 6, 1, 7, 0), -100);
    due("6 ten times", write(x, 6, 10, 7, 0), -100);
    due("6 lacks", write(x, 6), -100);
    due("6 3 deep", write(x, 6, 2, 6, 3, 6, 4, 2, 1, 1, 0, 0, 0, 7, 7, 2, 1, 7, 0), 24);
    due("6 3 deep", cue(x, 0, 0), 10);
    due("6 3 deep", cue(x, 11, 0), 120);
    due("6 3 deep", cue(x, 12, 0), 140);
    due("6 3 deep", cue(x, 23, 0), 250);
    due("6 4 deep", write(x, 6, 2, 6, 2, 6, 2, 6, 2, 7, 7, 7, 7, 0), -106);
    due("6 3 deep twice", write(x, 2, 1, 6, 2, 6, 2, 6, 2, 1, 0, 0, 0, 7, 7, 7,
        6, 2, 6, 2, 6, 2, 1, 0, 0, 0, 7, 7, 7, 0), 16);
    due("6 without 7", write(x, 6, 2, 6, 2, 7, 0), -105);
    due("6 empty", write(x, 6, 9, 6, 9, 6, 9, 7, 7, 7, 0), 0);
  }

  private static void orderEight() {
    LightScript x = desk();
    due("8", write(x, 2, 1, 1, 0, 0, 0, 8, 50, 1, 0, 0, 0, 2, 2, 1, 0, 0, 0, 0), 3);
    dueBursts("8", x, 10, 10, 110);
    due("8 in a loop", write(x, 2, 1, 6, 2, 1, 0, 0, 0, 8, 20, 2, 1, 7, 1, 0, 0, 0, 0), 3);
    dueBursts("8 in a loop", x, 10, 30, 50);
    due("8 1", write(x, 8, 1, 2, 5, 1, 0, 0, 0, 0), 1);
    dueBursts("8 1", x, 5);
    due("8 none", write(x, 8, 0, 0), -100);
    due("8 many", write(x, 8, 51, 0), -100);
    due("8 below", write(x, 8, -1, 0), -100);
    due("8 lacks", write(x, 8), -100);
    due("each row starts anew", write(x, 2, 1, 1, 0, 0, 0, 0), 1);
    dueBursts("each row starts anew", x, 10);
  }

  private static void limits() {
    LightScript x = desk();
    due("the last tick", write(x, 8, 50, 6, 8, 2, 50, 7, 1, 0, 0, 0, 0), 1);
    dueBursts("the last tick", x, 20000);
    due("a tick more", write(x, 8, 50, 6, 8, 2, 50, 7, 8, 1, 2, 1, 1, 0, 0, 0, 0), -111);
    due("4 beyond", write(x, 8, 50, 6, 8, 2, 50, 7, 8, 1, 4, 0, 0, 1, 1, 0), -109);
    due("5 beyond", write(x, 8, 50, 6, 8, 2, 50, 7, 8, 1, 5, 0, 0, 1, 1, 0), -109);
    due("now may be beyond", write(x, 8, 50, 6, 9, 2, 50, 7, 0), 0);
    due("120", write(x, 2, 1, 6, 8, 6, 5, 3, 0, 0, 3, 7, 7, 0), 120);
    due("the last", cue(x, 119, 3), 2);
    due("none behind it", cue(x, 120, 3), ISE);
    due("121", write(x, 2, 1, 6, 8, 6, 5, 3, 0, 0, 3, 7, 7, 1, 0, 0, 0, 0), -112);
    due("121 in a loop", write(x, 2, 1, 6, 9, 6, 5, 3, 0, 0, 3, 7, 7, 0), -106);
    due("121 by 4", write(x, 2, 1, 6, 8, 6, 5, 3, 0, 0, 3, 7, 7, 4, 0, 0, 1, 1, 0), -112);
    due("still 120", x.count(2), 120);
  }

  private static void asTheyCome() {
    LightScript x = desk();
    due("a later turn's fault is the first", write(x, 8, 50, 6, 9, 2, 50, 1, 0, 0, 0, 7, 99), -106);
    due("an order behind it comes later", write(x, 6, 2, 2, 1, 7, 9, 2, 0), -105);
    due("one in the loop comes first", write(x, 6, 2, 2, 51, 7, 9, 2, 0), -102);
  }

  private static void whatWriteTakesAway() {
    LightScript x = desk();
    due("write", write(x, 2, 1, 3, 0, 0, 2, 0), 2);
    x.fault(0, 6);
    x.fault(1, 3);
    x.seen(10, 1);
    x.halt(77);
    x.meter(1, 0, 0);
    x.tape(1, 1, 3);
    x.put(1, 0, 4);
    x.hold(1);
    due("refused", write(x, 2, 1, 3, 0, 0, 2), -106);
    due("cues stay", x.count(2), 2);
    due("seen stay", x.count(6), 1);
    due("faults stay", x.fault(0, 6), 6);
    due("written", write(x, 2, 1, 3, 0, -1, 3, 0), 3);
    due("cues", x.count(2), 3);
    due("open", x.count(3), 3);
    due("seen are gone", x.count(6), 0);
    due("faults are gone", x.fault(0, 0), 0);
    due("faults are gone", x.fault(1, 0), 0);
    due("readings stay", x.count(4), 1);
    due("rules stay", x.count(5), 1);
    due("the halt stays", x.halt(-1), 77);
    due("fewer", write(x, 2, 1, 1, 0, 0, 0, 0), 1);
    due("fewer", cue(x, 1, 0), ISE);
  }

  private static void cueRefused() {
    LightScript x = desk();
    due("cue", cue(x, 0, 0), ISE);
    due("cue", cue(x, 0, 5), IAE);
    write(x, 2, 1, 1, 0, 0, 0, 0);
    due("cue", cue(x, 0, -1), IAE);
    due("cue", cue(x, 0, 5), IAE);
    due("cue", cue(x, 1, 5), IAE);
    due("cue", cue(x, -1, -1), IAE);
    due("cue", cue(x, 1, 0), ISE);
    due("cue", cue(x, -1, 4), ISE);
    due("cue", cue(x, 120, 4), ISE);
    due("cue", cue(x, 0, 4), 5);
  }

  private static void stretch() {
    LightScript x = desk();
    write(x, 8, 1, 2, 10, 1, 0, 0, 0, 2, 7, 1, 0, 0, 0, 2, 13, 1, 0, 0, 0, 0);
    dueBursts("written", x, 10, 17, 30);
    x.fault(1, 2);
    x.seen(17, 1);
    due("stretch", x.stretch(12, 1, 2), 2);
    dueBursts("stretched", x, 10, 14, 21);
    due("seen stay", x.count(6), 1);
    due("faults stay", x.fault(1, 2), 2);
    due("stretch", x.stretch(10, 100, 100), 0);
    due("stretch at one", x.stretch(14, 3, 1), 1);
    dueBursts("stretched", x, 10, 14, 35);
    due("stretch from its tick", x.stretch(10, 5, 2), 2);
    dueBursts("stretched", x, 10, 20, 72);
    due("stretch beyond", x.stretch(20000, 100, 1), 0);
    due("stretch all", x.stretch(0, 1, 2), 3);
    dueBursts("stretched", x, 5, 10, 36);
    due("the fire", cue(x, 0, 4), 0);
    due("stretch all", x.stretch(0, 100, 1), 3);
    dueBursts("stretched", x, 500, 1000, 3600);
  }

  private static void stretchRefused() {
    LightScript x = desk();
    write(x, 8, 1, 2, 10, 1, 0, 0, 0, 8, 50, 2, 50, 2, 50, 2, 50, 2, 50, 1, 0, 0, 0, 0);
    dueBursts("written", x, 10, 10010);
    due("stretch f", x.stretch(-1, 1, 1), -1);
    due("stretch f", x.stretch(20001, 1, 1), -1);
    due("stretch p", x.stretch(0, 0, 1), -1);
    due("stretch p", x.stretch(0, 101, 1), -1);
    due("stretch q", x.stretch(0, 1, 0), -1);
    due("stretch q", x.stretch(0, 1, 101), -1);
    due("stretch early", x.stretch(0, 49, 100), -5);
    due("stretch early", x.stretch(0, 1, 100), -5);
    due("stretch full", x.stretch(0, 2, 1), -2);
    due("stretch full", x.stretch(10010 - 9991, 2, 1), -2);
    dueBursts("what is refused changes nothing", x, 10, 10010);
    due("stretch to the last tick", x.stretch(20, 2, 1), 1);
    dueBursts("stretched", x, 10, 20000);
    LightScript y = new LightScript();
    y.kind(0, 50, 50, 0, 1010);
    y.kind(1, 1, 50, 0, 1010);
    write(y, 8, 50, 2, 50, 1, 0, -1, 0, 2, 50, 1, 1, -1, 0, 0);
    due("stretch", y.stretch(0, 1, 50), 2);
    dueBursts("stretched", y, 50, 100);
    due("early of one", y.stretch(0, 99, 100), -5);
    due("not below its tick", y.stretch(50, 100, 1), 1);
    dueBursts("stretched", y, 50, 5050);
    due("full of one", y.stretch(0, 4, 1), -2);
    dueBursts("what is refused changes nothing", y, 50, 5050);
  }

  private static void place() {
    LightScript x = desk();
    write(x, 2, 1, 1, 0, 0, 0, 1, 0, -1, 0, 0);
    due("place", x.place(0, 4), 0);
    due("place", x.place(0, 4), 4);
    due("place", cue(x, 0, 2), 4);
    due("place", x.place(0, 3), -1);
    due("place", x.place(0, 6), -1);
    due("place", x.place(0, -2), -1);
    due("place", cue(x, 0, 2), 4);
    due("place", x.place(0, -1), 4);
    due("place", cue(x, 0, 2), -1);
    due("open", x.count(3), 2);
    due("place", x.place(1, 1), -1);
    due("place", cue(x, 1, 2), 1);
    due("open", x.count(3), 1);
    due("place", x.place(2, 1), -1);
    due("place", x.place(-1, 1), -1);
    due("place a kind it may not hold", x.cell(10, 5, 2), 0);
    due("place a kind it may not hold", x.place(0, 1), -1);
    due("place a kind it may not hold", cue(x, 0, 2), 1);
  }
}
