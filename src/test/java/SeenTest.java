// Promises 27 to 31: seen, unseen, duds, dud, strange.
public final class SeenTest {
  private static int wrong = 0;

  private static void due(String call, long got, long want) {
    if (got != want) {
      wrong++;
      System.out.println(call + " answered " + got + ", due is " + want);
    }
  }

  private static void row(LightScript x, int d, int... row) {
    x.tape(d, 1, row.length);
    for (int i = 0; i < row.length; i++) {
      x.put(d, i, row[i]);
    }
  }

  private static int write(LightScript x, int... row) {
    row(x, 0, row);
    return x.write(0);
  }

  private static void dueDuds(String name, LightScript x, int duds, int strange, int... want) {
    due(name + ": duds", x.duds(), duds);
    due(name + ": strange", x.strange(), strange);
    for (int c = 0; c < want.length; c++) {
      due(name + ": dud(" + c + ")", x.dud(c), want[c]);
    }
  }

  /** KIND 0 of colour 1 is LATE 2, KIND 1 of colour 2 LATE 0, KIND 2 of colour 1 LATE 5. */
  private static LightScript desk() {
    LightScript x = new LightScript();
    x.kind(0, 5, 50, 0, 1012);
    x.kind(1, 5, 50, 0, 1020);
    x.kind(2, 5, 50, 0, 1015);
    x.barge(0, 10, 10, 40);
    x.barge(1, 20, 20, 40);
    return x;
  }

  public static void main(String[] args) {
    seen();
    unseen();
    tickAndColour();
    whichCuesCount();
    fewerThanCues();
    chains();
    theGreatestIsFound();
    kindTheyHave();
    eachColour();
    eachAskedFirst();
    asStretched();
    full();
    System.out.println(wrong == 0 ? "all answers are as due" : wrong + " answers are not as due");
    if (wrong != 0) {
      System.exit(1);
    }
  }

  private static void seen() {
    LightScript x = desk();
    due("seen", x.seen(0, 1), 1);
    due("seen", x.seen(20010, 9), 2);
    due("seen tick", x.seen(-1, 1), -1);
    due("seen tick", x.seen(20011, 1), -1);
    due("seen colour", x.seen(0, 0), -1);
    due("seen colour", x.seen(0, 10), -1);
    due("count", x.count(6), 2);
    due("seen of a colour of no kind", x.seen(5, 7), 3);
    for (int i = 4; i <= 60; i++) {
      due("seen", x.seen(60 - i, 1), i);
    }
    due("seen full", x.seen(0, 1), -2);
    due("seen wrong and full", x.seen(0, 0), -1);
    due("count", x.count(6), 60);
    due("strange", x.strange(), 60);
  }

  private static void unseen() {
    LightScript x = desk();
    due("unseen", x.unseen(), 0);
    x.seen(5, 1);
    x.seen(4, 1);
    due("unseen", x.unseen(), 2);
    due("unseen", x.unseen(), 0);
    due("count", x.count(6), 0);
    due("seen", x.seen(9, 1), 1);
    due("strange", x.strange(), 1);
  }

  private static void tickAndColour() {
    LightScript x = desk();
    write(x, 2, 2, 1, 0, 0, 0, 2, 2, 1, 1, 0, 0, 0);
    dueDuds("none seen", x, 2, 0, 2, 2);
    int[] ticks = {17, 18, 20, 22, 23};
    int[] duds = {2, 0, 0, 0, 2};
    for (int i = 0; i < ticks.length; i++) {
      x.unseen();
      x.seen(ticks[i], 1);
      dueDuds("colour 1 seen at " + ticks[i], x, duds[i] == 2 ? 2 : 1, duds[i] == 2 ? 1 : 0,
          duds[i], 2);
    }
    for (int tick = 39; tick <= 41; tick++) {
      x.unseen();
      x.seen(tick, 2);
      dueDuds("colour 2 seen at " + tick, x, tick == 40 ? 1 : 2, tick == 40 ? 0 : 1,
          2, tick == 40 ? 0 : 2);
    }
    x.unseen();
    x.seen(20, 2);
    x.seen(40, 1);
    dueDuds("of the other colours", x, 2, 2, 2, 2);
    due("dud of none", x.dud(2), -1);
    due("dud of none", x.dud(-1), -1);
    due("dud of none", x.dud(120), -1);
  }

  private static void whichCuesCount() {
    LightScript x = desk();
    x.kind(3, 5, 10, 0, 4010);
    x.kind(4, 5, 10, 0, 4030);
    // Fired, a dud, open, replaced, held by wind, halted.
    write(x, 2, 2, 1, 0, 0, 0, 1, 0, 0, 0, 1, 0, -1, 0, 1, 3, 1, 0, 1, 4, 1, 0,
        2, 1, 1, 0, 0, 0, 0);
    x.cell(20, 20, 1);
    x.fault(1, 6);
    x.halt(25);
    int[] fates = {0, 5, 6, 1, 2, 4};
    for (int c = 0; c < 6; c++) {
      due("fate(" + c + ")", x.fate(c), fates[c]);
    }
    dueDuds("none seen", x, 3, 0, 2, 2, -2, 2, -2, -2);
    for (int i = 0; i < 6; i++) {
      x.seen(20, 1);
      x.seen(30, 1);
    }
    dueDuds("all seen", x, 0, 9, 0, 0, -2, 0, -2, -2);
    x.halt(-1);
    dueDuds("no halt", x, 0, 8, 0, 0, -2, 0, -2, 0);
    row(x, 1, 4, 0, 0);
    x.hold(1);
    dueDuds("held by a rule", x, 0, 11, -2, -2, -2, 0, -2, -2);
  }

  private static void fewerThanCues() {
    LightScript x = desk();
    write(x, 2, 2, 3, 0, 0, 3, 0);
    x.seen(20, 1);
    dueDuds("one of three", x, 2, 0, 1, 1, 1);
    x.seen(21, 1);
    dueDuds("two of three", x, 1, 0, 1, 1, 1);
    x.seen(19, 1);
    dueDuds("three of three", x, 0, 0, 0, 0, 0);
    x.seen(19, 1);
    dueDuds("four for three", x, 0, 1, 0, 0, 0);
    x.fault(2, 6);
    dueDuds("it was told as a dud, but seen", x, 0, 1, 0, 0, 0);
  }

  private static void chains() {
    LightScript x = desk();
    // Bursts 20, 23, 26, all LATE 2.
    write(x, 2, 2, 1, 0, 0, 0, 8, 3, 2, 1, 1, 0, 0, 0, 2, 1, 1, 0, 0, 0, 0);
    x.seen(22, 1);
    dueDuds("the first or the second", x, 2, 0, 1, 1, 2);
    x.seen(24, 1);
    dueDuds("two of a chain of three", x, 1, 0, 1, 1, 1);
    x.seen(28, 1);
    dueDuds("all three", x, 0, 0, 0, 0, 0);
    x.unseen();
    x.seen(18, 1);
    x.seen(22, 1);
    dueDuds("the first and the second", x, 1, 0, 0, 0, 2);
    x.unseen();
    x.seen(28, 1);
    x.seen(24, 1);
    dueDuds("told backwards", x, 1, 0, 2, 0, 0);
    x.unseen();
    x.seen(18, 1);
    x.seen(18, 1);
    dueDuds("two at one", x, 2, 1, 0, 2, 2);
  }

  private static void theGreatestIsFound() {
    LightScript x = desk();
    // CUE 0 at 20 is LATE 5 (15 .. 25), CUE 1 at 20 LATE 2 (18 .. 22).
    write(x, 2, 2, 1, 2, 0, 0, 1, 0, 0, 0, 0);
    x.seen(20, 1);
    x.seen(25, 1);
    dueDuds("each has its own", x, 0, 0, 0, 0);
    x.unseen();
    x.seen(20, 1);
    x.seen(15, 1);
    dueDuds("each has its own", x, 0, 0, 0, 0);
    x.unseen();
    x.seen(18, 1);
    dueDuds("either has it", x, 1, 0, 1, 1);
    x.unseen();
    x.seen(17, 1);
    dueDuds("one alone may have it", x, 1, 0, 0, 2);
    x.unseen();
    x.seen(17, 1);
    x.seen(16, 1);
    dueDuds("one alone may have either", x, 1, 1, 0, 2);
  }

  private static void kindTheyHave() {
    LightScript x = desk();
    // KIND 3 is LATE 0 and on land; KIND 4 stands for it, LATE 4.
    x.kind(0, 6, 50, 0, 1012);
    x.kind(2, 6, 50, 0, 1015);
    x.kind(3, 5, 10, 0, 4010);
    x.kind(4, 5, 50, 0, 1014);
    x.cell(10, 10, 1);
    write(x, 2, 2, 1, 3, 0, 0, 0);
    due("replaced", x.fate(0), 1);
    x.seen(24, 1);
    dueDuds("late as its kind then", x, 0, 0, 0);
    x.fault(0, 6);
    due("misfired", x.fate(0), 5);
    dueDuds("a dud late as its kind then", x, 0, 0, 0);
    x.seen(25, 1);
    x.kind(4, 5, 50, 0, 1013);
    dueDuds("not so late", x, 1, 2, 2);
    x.cell(10, 10, 0);
    x.seen(20, 1);
    dueDuds("late as its own kind", x, 0, 2, 0);
    x.kind(3, 5, 10, 0, 4015);
    dueDuds("late as its own kind", x, 0, 2, 0);
    x.unseen();
    x.seen(25, 1);
    dueDuds("late as its own kind", x, 0, 0, 0);
    x.kind(3, 5, 10, 0, 4025);
    dueDuds("another colour", x, 1, 1, 2);
  }

  private static void eachColour() {
    for (int colour = 1; colour <= 9; colour++) {
      for (int late = 0; late <= 5; late++) {
        LightScript x = desk();
        x.kind(5, 5, 50, 0, 7000 + 10 * colour + late);
        write(x, 2, 2, 1, 5, 0, 0, 0);
        for (int other = 1; other <= 9; other++) {
          x.seen(20 + late + (other == colour ? 1 : 0), other);
        }
        dueDuds("none of colour " + colour + " in time", x, 1, 9, 2);
        x.seen(20 + late, colour);
        dueDuds("one of colour " + colour, x, 0, 9, 0);
      }
    }
  }

  /** Each of the three asks the show as it is now, whichever is asked first. */
  private static void eachAskedFirst() {
    LightScript x = desk();
    write(x, 2, 2, 1, 0, 0, 0, 0);
    x.seen(20, 1);
    due("dud asked first", x.dud(0), 0);
    x.halt(0);
    due("dud, halted", x.dud(0), -2);
    x.halt(-1);
    due("dud, no halt", x.dud(0), 0);
    x.halt(0);
    due("strange, halted", x.strange(), 1);
    x.halt(-1);
    due("strange, no halt", x.strange(), 0);
    x.halt(0);
    due("duds, halted", x.duds(), 0);
    x.unseen();
    x.halt(-1);
    due("duds, no halt", x.duds(), 1);
  }

  private static void asStretched() {
    LightScript x = desk();
    write(x, 2, 2, 1, 1, 0, 0, 0);
    x.seen(20, 2);
    x.seen(23, 2);
    dueDuds("as written", x, 0, 1, 0);
    x.fault(0, 3);
    due("goes", x.goes(0, 2), 23);
    dueDuds("as written, not as late as told", x, 0, 1, 0);
    x.unseen();
    x.seen(23, 2);
    dueDuds("as written, not as late as told", x, 1, 1, 2);
    due("stretch", x.stretch(17, 2, 1), 1);
    dueDuds("as stretched", x, 0, 0, 0);
    due("stretch", x.stretch(17, 1, 2), 1);
    dueDuds("as stretched back", x, 1, 1, 2);
  }

  private static void full() {
    LightScript x = desk();
    // 120 alike, 60 seen: each may be left out.
    due("write", write(x, 2, 2, 6, 8, 6, 5, 3, 0, 0, 3, 7, 7, 0), 120);
    for (int i = 0; i < 60; i++) {
      x.seen(18 + i % 5, 1);
    }
    dueDuds("full", x, 60, 0);
    due("dud", x.dud(0), 1);
    due("dud", x.dud(119), 1);
    x.kind(0, 5, 50, 0, 1010);
    dueDuds("full", x, 108, 48);
    for (int c = 0; c < 120; c++) {
      x.fault(c, 1 + c % 6);
    }
    dueDuds("full of faults", x, 108, 48);
  }
}
