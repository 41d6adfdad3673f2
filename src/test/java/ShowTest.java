// Promises 23 to 26: fate, goes, many, order.
public final class ShowTest {
  private static final long IAE = Long.MIN_VALUE;
  private static final long ISE = Long.MIN_VALUE + 1;
  private static int wrong = 0;

  private static void due(String call, long got, long want) {
    if (got != want) {
      wrong++;
      System.out.println(call + " answered " + got + ", due is " + want);
    }
  }

  private static long goes(LightScript x, int c, int what) {
    try {
      return x.goes(c, what);
    } catch (IllegalArgumentException e) {
      return IAE;
    } catch (IllegalStateException e) {
      return ISE;
    }
  }

  private static void row(LightScript x, int d, int... row) {
    x.tape(d, 1, row.length);
    for (int i = 0; i < row.length; i++) {
      x.put(d, i, row[i]);
    }
  }

  private static int write(LightScript x, int... row) {
    row(x, 0, row);
    return x.write(0);
  }

  private static int hold(LightScript x, int... row) {
    row(x, 1, row);
    return x.hold(1);
  }

  private static void dueFates(String name, LightScript x, int... want) {
    due(name + ": cues", x.count(2), want.length);
    for (int c = 0; c < want.length; c++) {
      due(name + ": fate of " + c, x.fate(c), want[c]);
    }
  }

  private static void dueGoes(String name, LightScript x, int c, int kind, int fire, int burst) {
    due(name + ": goes(" + c + ", 0)", goes(x, c, 0), kind);
    due(name + ": goes(" + c + ", 1)", goes(x, c, 1), fire);
    due(name + ": goes(" + c + ", 2)", goes(x, c, 2), burst);
  }

  /**
   * All of colour 1. KIND 3 lands hot by its barge and drifts with the wind; KIND 5 stays cold at
   * a lift of 4. The barge lies on water.
   */
  private static LightScript desk() {
    LightScript x = new LightScript();
    x.kind(3, 6, 10, 0, 4012);
    x.kind(5, 4, 50, 0, 1013);
    x.barge(0, 10, 10, 40);
    x.barge(1, 20, 20, 40);
    return x;
  }

  public static void main(String[] args) {
    refused();
    firedAndLate();
    openAndHalted();
    heldByWind();
    replacedByTheFirst();
    replacedIfHeldAndSafe();
    misfired();
    windKnownByThen();
    rulesOnFireAndWind();
    rulesOnBargeAndKind();
    rulesJoined();
    rulesAreAnyOf();
    rulesOnMisfires();
    misfiresOfReplaced();
    precedence();
    order();
    many();
    System.out.println(wrong == 0 ? "all answers are as due" : wrong + " answers are not as due");
    if (wrong != 0) {
      System.exit(1);
    }
  }

  private static void refused() {
    LightScript x = desk();
    due("fate of none", x.fate(0), -1);
    due("goes of none", goes(x, 0, 0), IAE);
    write(x, 2, 1, 1, 3, 0, 0, 0);
    due("fate of none", x.fate(1), -1);
    due("fate of none", x.fate(-1), -1);
    due("fate of none", x.fate(120), -1);
    due("goes of none", goes(x, 1, 0), IAE);
    due("goes of none", goes(x, -1, 0), IAE);
    due("goes what", goes(x, 0, -1), IAE);
    due("goes what", goes(x, 0, 3), IAE);
    due("many of none", x.many(-1), -1);
    due("many of none", x.many(7), -1);
    x.halt(0);
    due("goes, it doesn't", goes(x, 0, 0), ISE);
    due("goes what", goes(x, 0, 3), IAE);
    x.halt(-1);
    x.place(0, -1);
    due("goes, it is open", goes(x, 0, 2), ISE);
    x.place(0, 0);
    x.fault(0, 6);
    due("goes, it is a dud", goes(x, 0, 1), ISE);
    x.fault(0, 0);
    hold(x, 1, 0, 0);
    due("goes, it is held", goes(x, 0, 1), ISE);
    x.holdless();
    due("goes", goes(x, 0, 1), 4);
  }

  private static void firedAndLate() {
    LightScript x = desk();
    write(x, 2, 2, 1, 3, 0, 0, 0);
    dueFates("fired", x, 0);
    dueGoes("fired", x, 0, 3, 14, 20);
    for (int late = 1; late <= 5; late++) {
      x.fault(0, late);
      dueFates("late", x, 0);
      dueGoes("late", x, 0, 3, 14, 20 + late);
    }
    x.stretch(0, 2, 1);
    dueGoes("late and stretched", x, 0, 3, 34, 45);
  }

  private static void openAndHalted() {
    LightScript x = desk();
    // FIRES 14 and 24.
    write(x, 2, 2, 1, 3, 0, 0, 2, 1, 1, 3, 0, 0, 0);
    x.halt(25);
    dueFates("halted behind", x, 0, 0);
    x.halt(24);
    dueFates("halted at it", x, 0, 4);
    x.halt(15);
    dueFates("halted between", x, 0, 4);
    x.halt(0);
    dueFates("halted at all", x, 4, 4);
    x.place(0, -1);
    dueFates("open goes ahead", x, 6, 4);
    x.halt(-1);
    dueFates("no halt", x, 6, 0);
    x.halt(24);
    x.kind(3, 5, 10, 0, 4012);
    dueFates("a smaller lift fires later", x, 6, 4);
    x.kind(3, 7, 10, 0, 4012);
    dueFates("a greater lift fires ahead", x, 6, 0);
  }

  private static void heldByWind() {
    LightScript x = desk();
    x.cell(10, 10, 1);
    x.kind(5, 4, 50, 0, 1023);
    write(x, 2, 1, 1, 3, 0, 0, 0);
    dueFates("on land, none of its colour", x, 2);
    x.kind(5, 4, 50, 0, 1013);
    dueFates("on land, one of its colour", x, 1);
    x.kind(5, 7, 50, 0, 1013);
    dueFates("its lift is above", x, 2);
    x.kind(5, 6, 50, 0, 1013);
    dueFates("its lift is alike", x, 1);
    x.cell(10, 10, 0);
    dueFates("on water", x, 0);
    x.cell(9, 10, 2);
    x.cell(10, 10, 1);
    dueFates("the other one may not be held", x, 2);
    due("may", x.may(0, 5), 0);
    write(x, 2, 1, 1, 3, 0, 0, 1, 5, 0, 0, 0);
    dueFates("a safe one that may not be held is fired", x, 2, 0);
    x.cell(9, 10, 0);
    x.wind(0, 0, 50, 0);
    dueFates("blown off", x, 0, 0);
    due("many", x.many(2), 0);
  }

  private static void replacedByTheFirst() {
    LightScript x = desk();
    x.kind(8, 1, 50, 0, 1011);
    x.cell(10, 10, 1);
    write(x, 2, 1, 1, 3, 0, 0, 0);
    dueFates("replaced", x, 1);
    dueGoes("replaced by 5", x, 0, 5, 6, 10);
    x.fault(0, 2);
    dueGoes("replaced and late", x, 0, 5, 6, 12);
    x.kind(0, 1, 50, 0, 1011);
    dueGoes("replaced by 0", x, 0, 0, 9, 12);
    x.kind(0, 1, 50, 0, 1021);
    x.kind(5, 1, 50, 0, 1091);
    dueGoes("replaced by 8", x, 0, 8, 9, 12);
    x.kind(11, 6, 50, 0, 1015);
    dueGoes("replaced by 8 yet", x, 0, 8, 9, 12);
  }

  private static void replacedIfHeldAndSafe() {
    LightScript x = desk();
    x.cell(10, 10, 1);
    write(x, 2, 1, 1, 3, 0, 0, 1, 3, 1, 0, 1, 3, 0, 4, 0);
    dueFates("replaced", x, 1, 0, 1);
    x.cell(20, 20, 1);
    dueFates("each by its barge", x, 1, 1, 1);
    x.cell(21, 20, 2);
    dueFates("each by its barge", x, 1, 2, 1);
    // At an angle of 4 the other kind comes down a cell further: from half its height it is hot.
    x.kind(5, 4, 50, 0, 10013);
    dueFates("at its angle, no crowd", x, 1, 2, 1);
    x.kind(5, 4, 50, 0, 20013);
    x.cell(11, 10, 1);
    dueFates("at its angle, on land", x, 2, 2, 2);
    x.cell(10, 10, 0);
    dueFates("at its angle, safe as told", x, 0, 2, 0);
    // The wind is that known at the FIRE as told (4), not at the later FIRE (6).
    x.begin();
    x.kind(3, 6, 10, 0, 4012);
    x.kind(5, 4, 20, 0, 8013);
    x.barge(0, 10, 10, 40);
    x.cell(10, 10, 1);
    x.wind(1, 0, 50, 0);
    x.meter(1, 0, 5);
    write(x, 2, 1, 1, 3, 0, 0, 0);
    dueFates("no wind yet", x, 2);
    x.meter(1, 0, 4);
    x.cell(11, 10, 1);
    dueFates("the wind is known", x, 1);
    dueGoes("the wind is known", x, 0, 5, 6, 10);
  }

  private static void misfired() {
    LightScript x = desk();
    write(x, 2, 1, 1, 3, 0, 0, 0);
    x.fault(0, 6);
    dueFates("a dud", x, 5);
    x.cell(10, 10, 1);
    dueFates("a dud, replaced", x, 5);
    x.kind(5, 4, 50, 0, 1023);
    dueFates("a dud held by wind", x, 2);
    x.fault(0, 0);
    dueFates("held by wind", x, 2);
  }

  private static void windKnownByThen() {
    LightScript x = desk();
    x.kind(5, 4, 50, 0, 1023);
    x.cell(10, 10, 1);
    x.wind(1, 0, 50, 0);
    // FIRES 14, 24, 34.
    write(x, 2, 1, 6, 3, 2, 1, 1, 3, 0, 0, 7, 0);
    dueFates("no wind", x, 2, 2, 2);
    x.meter(1, 10, 24);
    dueFates("known at 24", x, 2, 0, 0);
    x.meter(1, 10, 14);
    dueFates("known at 14", x, 0, 0, 0);
    x.meter(0, 30, 34);
    dueFates("none known at 34", x, 0, 0, 2);
    x.meter(1, 30, 35);
    dueFates("known too late", x, 0, 0, 2);
  }

  private static void rulesOnFireAndWind() {
    LightScript x = desk();
    // FIRES 14, 24, 34.
    write(x, 2, 1, 6, 3, 2, 1, 1, 3, 0, 0, 7, 0);
    hold(x, 1, 2, 0);
    dueFates("fire 20 or more", x, 0, 3, 3);
    x.kind(3, 4, 10, 0, 4012);
    x.holdless();
    hold(x, 1, 1, 0);
    dueFates("fire 10 or more", x, 3, 3, 3);
    x.holdless();
    hold(x, 1, 3, 0);
    // FIRES 16, 26, 36.
    dueFates("fire 30 or more", x, 0, 0, 3);
    x.kind(3, 10, 10, 0, 4012);
    // FIRES 10, 20, 30.
    dueFates("fire 30", x, 0, 0, 3);
    x.kind(3, 11, 10, 0, 4012);
    dueFates("fire 29", x, 0, 0, 0);
    x.holdless();
    hold(x, 3, 2, 0);
    dueFates("no wind 2", x, 0, 0, 0);
    x.meter(2, 0, 19);
    dueFates("wind 2 at 19", x, 0, 3, 3);
    x.meter(1, 5, 20);
    dueFates("wind 1 at 20", x, 0, 3, 0);
  }

  private static void rulesOnBargeAndKind() {
    LightScript x = desk();
    write(x, 2, 1, 1, 3, 0, 0, 1, 3, 1, 0, 1, 5, 1, 0, 1, 5, -1, 0, 0);
    dueFates("no rule", x, 0, 0, 0, 6);
    hold(x, 4, 1, 0);
    dueFates("barge 1", x, 0, 3, 3, 6);
    x.holdless();
    hold(x, 5, 3, 0);
    dueFates("kind 3", x, 3, 3, 0, 6);
    x.holdless();
    hold(x, 5, 12, 0);
    dueFates("no such kind", x, 0, 0, 0, 6);
    x.holdless();
    hold(x, 5, 5, 0);
    x.cell(10, 10, 1);
    dueFates("the kind as told, not as replaced", x, 1, 0, 3, 6);
    dueGoes("the kind as told, not as replaced", x, 0, 5, 6, 10);
  }

  private static void rulesJoined() {
    int[][] rules = {{6}, {7}, {8, 6}, {8, 7}, {6, 8}, {7, 8}};
    // Cues: barge 0 kind 3, barge 1 kind 3, barge 0 kind 5, barge 1 kind 5; by barge 1, kind 5.
    int[][] fates = {{0, 0, 0, 3}, {0, 3, 3, 3}, {0, 3, 0, 0}, {3, 3, 0, 3}, {3, 3, 3, 0},
        {3, 0, 0, 0}};
    for (int r = 0; r < rules.length; r++) {
      LightScript x = desk();
      write(x, 2, 1, 1, 3, 0, 0, 1, 3, 1, 0, 1, 5, 0, 0, 1, 5, 1, 0, 0);
      int[] row = new int[5 + rules[r].length];
      row[0] = 4;
      row[1] = 1;
      row[2] = 5;
      row[3] = 5;
      System.arraycopy(rules[r], 0, row, 4, rules[r].length);
      due("hold", hold(x, row), 0);
      dueFates("joined by rule " + r, x, fates[r]);
    }
    LightScript x = desk();
    write(x, 2, 1, 1, 3, 0, 0, 1, 3, 1, 0, 1, 5, 0, 0, 1, 5, 1, 0, 0);
    hold(x, 4, 0, 5, 3, 6, 4, 1, 5, 5, 6, 7, 0);
    dueFates("both of two, or both of two others", x, 3, 0, 0, 3);
    x.holdless();
    hold(x, 5, 3, 4, 0, 4, 1, 7, 6, 0);
    dueFates("the last two first", x, 3, 3, 0, 0);
    x.holdless();
    hold(x, 5, 9, 5, 9, 5, 9, 5, 9, 5, 9, 5, 9, 5, 9, 4, 1, 7, 7, 7, 7, 7, 7, 7, 0);
    dueFates("eight on the stack", x, 0, 3, 0, 3);
    x.holdless();
    hold(x, 4, 1, 5, 9, 5, 9, 5, 9, 5, 9, 5, 9, 5, 9, 5, 9, 7, 7, 7, 7, 7, 7, 7, 0);
    dueFates("eight on the stack", x, 0, 3, 0, 3);
  }

  private static void rulesAreAnyOf() {
    LightScript x = desk();
    write(x, 2, 1, 1, 3, 0, 0, 1, 3, 1, 0, 1, 5, 0, 0, 1, 5, 1, 0, 0);
    int[] twenty = {5, 3, 8, 8, 8, 8, 8, 8, 8, 8, 8, 8, 8, 8, 8, 8, 8, 8, 8, 8, 8, 0};
    due("hold", hold(x, 4, 9, 0), 0);
    due("hold", hold(x, twenty), 1);
    dueFates("by the second", x, 0, 0, 3, 3);
    for (int r = 2; r < 7; r++) {
      due("hold", hold(x, 4, 9, 0), r);
    }
    due("hold", hold(x, 4, 0, 0), 7);
    dueFates("by the second or the eighth", x, 3, 0, 3, 3);
    x.holdless();
    dueFates("by none", x, 0, 0, 0, 0);
    due("hold", hold(x, 4, 9, 0), 0);
    dueFates("none of those before", x, 0, 0, 0, 0);
    due("hold", hold(x, 4, 1, 0), 1);
    dueFates("a shorter one in the place of a longer", x, 0, 3, 0, 3);
  }

  private static void rulesOnMisfires() {
    LightScript x = new LightScript();
    x.kind(0, 10, 10, 0, 4010);
    x.kind(1, 20, 10, 0, 4010);
    x.barge(0, 10, 10, 40);
    // Bursts 20, 30, 30, 40 of KIND 0: FIRES 10, 20, 20, 30.
    write(x, 2, 2, 1, 0, 0, 0, 2, 1, 1, 0, 0, 0, 1, 0, 0, 0, 2, 1, 1, 0, 0, 0, 0);
    hold(x, 2, 1, 0);
    dueFates("no misfires", x, 0, 0, 0, 0);
    x.fault(0, 6);
    dueFates("seen at 20, so at the FIRES at 20", x, 5, 3, 3, 3);
    x.stretch(21, 9, 10);
    // Bursts 20, 29, 29, 38: FIRES 10, 19, 19, 28.
    dueFates("not seen at 19", x, 5, 0, 0, 3);
    x.fault(1, 6);
    dueFates("not seen at 28", x, 5, 5, 0, 3);
    x.holdless();
    hold(x, 2, 2, 0);
    dueFates("one seen at 28", x, 5, 5, 0, 0);
    x.stretch(30, 4, 1);
    // The last one's burst is 62 then, its FIRE 52.
    dueFates("two seen at 52", x, 5, 5, 0, 3);
    x.holdless();
    hold(x, 2, 3, 0);
    dueFates("three aren't", x, 5, 5, 0, 0);
    x.fault(2, 6);
    dueFates("three are", x, 5, 5, 5, 3);
    x.halt(19);
    dueFates("a halted dud is no misfire", x, 5, 4, 4, 4);
    x.halt(-1);
    x.place(2, -1);
    dueFates("an open dud is no misfire", x, 5, 5, 6, 0);
    x.holdless();
    hold(x, 2, 0, 0);
    dueFates("none or more", x, 3, 3, 6, 3);
    // A dud that is held by a rule is no misfire for the ones behind it.
    x.holdless();
    x.place(2, 0);
    hold(x, 2, 1, 0);
    x.stretch(21, 10, 1);
    x.fault(2, 6);
    // Bursts 20, 101, 101, 431.
    dueFates("held duds", x, 5, 3, 3, 3);
    x.holdless();
    hold(x, 2, 2, 0);
    dueFates("two duds at once", x, 5, 5, 5, 3);
    x.fault(0, 0);
    x.holdless();
    hold(x, 2, 1, 0);
    dueFates("of two alike neither sees the other", x, 0, 5, 5, 3);
  }

  private static void misfiresOfReplaced() {
    LightScript x = desk();
    x.cell(10, 10, 1);
    // Bursts 10 and 16 of KIND 3: FIRES 4 and 10; the first is replaced and a dud.
    write(x, 2, 1, 1, 3, 0, 0, 8, 6, 2, 1, 1, 3, 0, 0, 0);
    hold(x, 2, 1, 0);
    dueFates("replaced both", x, 1, 1);
    x.fault(0, 6);
    dueFates("a replaced dud is seen", x, 5, 3);
    x.kind(3, 7, 10, 0, 4012);
    dueFates("not seen at 9", x, 5, 1);
    x.kind(3, 5, 10, 0, 4012);
    x.fault(0, 0);
    dueFates("seen no more", x, 1, 1);
    dueGoes("replaced", x, 0, 5, 6, 10);
  }

  private static void precedence() {
    LightScript x = desk();
    x.kind(5, 4, 50, 0, 1023);
    x.cell(10, 10, 1);
    write(x, 2, 1, 1, 3, 0, 0, 0);
    x.fault(0, 6);
    x.halt(4);
    hold(x, 1, 0, 0);
    x.place(0, -1);
    dueFates("open", x, 6);
    x.place(0, 0);
    dueFates("halted", x, 4);
    x.halt(5);
    dueFates("held by a rule", x, 3);
    x.holdless();
    dueFates("held by wind", x, 2);
    x.cell(10, 10, 0);
    dueFates("misfired", x, 5);
    x.fault(0, 5);
    dueFates("fired", x, 0);
  }

  private static void order() {
    LightScript x = desk();
    due("order of none", x.order(0), -1);
    // Bursts 20, 18, 18, 20, 18 of KINDS 3, 3, 5, 5, 5: FIRES 14, 12, 14, 16, 14.
    write(x, 2, 2, 1, 3, 0, 0, 0);
    x.keep(2);
    due("write", write(x, 8, 1, 2, 18, 1, 3, 0, 0, 1, 5, 0, 0, 1, 5, 1, 0, 2, 2, 1, 3, 0, 0,
        1, 5, -1, 0, 0), 5);
    int[] byFire = {0, 1, 2, 3, 4};
    for (int i = 0; i < 5; i++) {
      due("order(" + i + ")", x.order(i), byFire[i]);
    }
    due("order(5)", x.order(5), -1);
    due("order(-1)", x.order(-1), -1);
    // Bursts 18, 18, 18, 20, 20; with a lift of 1 those of KIND 3 FIRE at 17, 19.
    x.kind(3, 1, 10, 0, 4012);
    int[] later = {1, 2, 4, 0, 3};
    for (int i = 0; i < 5; i++) {
      due("order(" + i + ") anew", x.order(i), later[i]);
    }
    // Replaced ones stand where they were told: KIND 3 with a lift of 6 is on land.
    x.kind(3, 6, 10, 0, 4012);
    x.cell(10, 10, 1);
    due("replaced", x.fate(0), 1);
    for (int i = 0; i < 5; i++) {
      due("order(" + i + ") of replaced", x.order(i), byFire[i]);
    }
    x.kind(5, 6, 50, 0, 1013);
    due("alike by number", x.order(3), 3);
    x.kind(5, 5, 50, 0, 1013);
    due("the greater FIRE behind", x.order(1), 1);
    x.begin();
    due("order of none", x.order(0), -1);
    byFireBackwards();
  }

  private static void byFireBackwards() {
    LightScript x = desk();
    due("write", write(x, 2, 2, 4, 3, 0, 1, 50, 1, 5, 0, 0, 1, 3, 0, 0, 8, 1, 2, 1, 1, 5, 0, 0,
        1, 3, 0, 0, 0), 6);
    // Bursts 20, 520, 20, 20, 21, 21: FIRES 14, 514, 16, 14, 17, 15.
    int[] want = {0, 3, 5, 2, 4, 1};
    for (int i = 0; i < 6; i++) {
      due("order(" + i + ") backwards", x.order(i), want[i]);
    }
  }

  private static void many() {
    LightScript x = desk();
    x.cell(20, 20, 1);
    for (int fate = 0; fate < 7; fate++) {
      due("many of none", x.many(fate), 0);
    }
    // Two fired, one replaced, one held, three open.
    write(x, 2, 2, 1, 3, 0, 0, 1, 3, 0, 1, 1, 3, 1, 0, 1, 5, 0, 0, 3, 3, -1, 3, 0);
    hold(x, 5, 5, 0);
    int[] want = {2, 1, 0, 1, 0, 0, 3};
    for (int fate = 0; fate < 7; fate++) {
      due("many(" + fate + ")", x.many(fate), want[fate]);
    }
    x.holdless();
    x.fault(0, 6);
    x.kind(5, 4, 50, 0, 1023);
    x.halt(16);
    int[] then = {1, 0, 1, 0, 1, 1, 3};
    for (int fate = 0; fate < 7; fate++) {
      due("many(" + fate + ") then", x.many(fate), then[fate]);
    }
  }
}
