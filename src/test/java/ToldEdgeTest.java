// The boundaries that part IV names of what is told, and promises 17 to 22, each on both its sides.
public final class ToldEdgeTest {
  private static final int MIN = Integer.MIN_VALUE;
  private static final int MAX = Integer.MAX_VALUE;
  private static int wrong = 0;

  private static void due(String call, long got, long want) {
    if (got != want) {
      wrong++;
      System.out.println(call + " answered " + got + ", due is " + want);
    }
  }

  private static void row(LightScript x, int d, int... row) {
    x.tape(d, 1, row.length);
    for (int i = 0; i < row.length; i++) {
      if (row[i] != 0) {
        x.put(d, i, row[i]);
      }
    }
  }

  private static int hold(LightScript x, int... row) {
    row(x, 1, row);
    return x.hold(1);
  }

  /** A fault on a new object: no RULE is told. */
  private static void dueFault(String name, int place, int... row) {
    LightScript x = new LightScript();
    due(name, hold(x, row), -100 - place);
    due(name + ": count(5)", x.count(5), 0);
  }

  private static void dueRule(String name, int... row) {
    LightScript x = new LightScript();
    due(name, hold(x, row), 0);
    due(name + ": count(5)", x.count(5), 1);
  }

  private static int[] row(int... orders) {
    return orders;
  }

  /** So many ORDERS (the first with its number, the others 8), and the 0. */
  private static int[] orders(int n) {
    int[] row = new int[n + 2];
    row[0] = 2;
    for (int i = 2; i <= n; i++) {
      row[i] = 8;
    }
    return row;
  }

  /** So many with a number each, as many 6 as bring them down to one, and the 0. */
  private static int[] stack(int n) {
    int[] row = new int[3 * n];
    for (int i = 0; i < n; i++) {
      row[2 * i] = 1;
    }
    for (int i = 0; i < n - 1; i++) {
      row[2 * n + i] = 6;
    }
    return row;
  }

  public static void main(String[] args) {
    meterWinds();
    meterTicks();
    meterKnownNotAhead();
    twentyReadings();
    knowsTicks();
    knownFromItsTickOn();
    greatestTickFromWhichItBlows();
    ofTwoAlikeTheLast();
    windZeroIfNone();
    holdTapes();
    holdOrdersFrom0To8();
    holdNumbersLackOrBelow0();
    holdAnyNumber();
    holdTooFewOnTheStack();
    holdTheNinthOnIt();
    holdNotJustOne();
    holdNoZero();
    holdFirstFault();
    eightRules();
    twentyOrders();
    holdlessCounts();
    faultNumbers();
    haltTicks();
    System.out.println(wrong == 0 ? "all answers are as due" : wrong + " answers are not as due");
    if (wrong != 0) {
      System.exit(1);
    }
  }

  // "NONE: no such WIND"
  private static void meterWinds() {
    LightScript x = new LightScript();
    for (int w : new int[] {-1, 4, MIN, MAX}) {
      due("meter(" + w + ")", x.meter(w, 5, 5), -1);
      due("count(4)", x.count(4), 0);
      due("knows", x.knows(5), 0);
    }
    for (int w = 0; w < 4; w++) {
      due("meter(" + w + ")", x.meter(w, 10 * w, 10 * w), w + 1);
      due("knows", x.knows(10 * w), w);
    }
  }

  // "the TICKS are not 0 .. 20000"
  private static void meterTicks() {
    LightScript x = new LightScript();
    for (int no : new int[] {-1, MIN}) {
      due("meter from " + no, x.meter(1, no, 0), -1);
      due("meter from " + no, x.meter(1, no, 20000), -1);
      due("meter from, known " + no, x.meter(1, no, no), -1);
    }
    for (int no : new int[] {20001, MAX}) {
      due("meter known " + no, x.meter(1, 0, no), -1);
      due("meter known " + no, x.meter(1, 20000, no), -1);
      due("meter from, known " + no, x.meter(1, no, no), -1);
    }
    due("count(4)", x.count(4), 0);
    due("meter from 0, known 0", x.meter(1, 0, 0), 1);
    due("meter from 0, known 20000", x.meter(2, 0, 20000), 2);
    due("meter from 20000, known 20000", x.meter(3, 20000, 20000), 3);
    due("knows(0)", x.knows(0), 1);
    due("knows(19999)", x.knows(19999), 1);
    due("knows(20000)", x.knows(20000), 3);
  }

  // "KNOWN from another TICK on (not ahead of that)", "or the second is below the first"
  private static void meterKnownNotAhead() {
    LightScript x = new LightScript();
    for (int from : new int[] {1, 2, 100, 19999, 20000}) {
      due("meter known ahead", x.meter(1, from, from - 1), -1);
      due("meter known ahead", x.meter(1, from, 0), -1);
    }
    due("count(4)", x.count(4), 0);
    int n = 0;
    for (int from : new int[] {0, 1, 100, 19999, 20000}) {
      due("meter known at once", x.meter(1, from, from), ++n);
    }
    for (int from : new int[] {0, 1, 100, 19999}) {
      due("meter known later", x.meter(1, from, from + 1), ++n);
    }
  }

  // "up to 20 READINGS told", "FULL: 20"
  private static void twentyReadings() {
    LightScript x = new LightScript();
    for (int n = 1; n <= 20; n++) {
      due("meter", x.meter(n % 3 + 1, n, n), n);
      due("count(4)", x.count(4), n);
    }
    due("the 21st", x.meter(0, 30, 30), -2);
    due("the 21st", x.meter(0, 0, 0), -2);
    due("count(4)", x.count(4), 20);
    due("NONE goes ahead of FULL", x.meter(4, 30, 30), -1);
    due("NONE goes ahead of FULL", x.meter(-1, 30, 30), -1);
    due("NONE goes ahead of FULL", x.meter(0, 30, 29), -1);
    due("NONE goes ahead of FULL", x.meter(0, -1, 30), -1);
    due("NONE goes ahead of FULL", x.meter(0, 30, 20001), -1);
    for (int n = 1; n <= 20; n++) {
      due("knows(" + n + ")", x.knows(n), n % 3 + 1);
    }
    due("knows(30)", x.knows(30), 3);
    x.begin();
    due("meter after begin", x.meter(3, 1, 1), 1);
    due("knows after begin", x.knows(0), 0);
  }

  // "NONE: not 0 .. 20000"
  private static void knowsTicks() {
    LightScript x = new LightScript();
    x.meter(2, 0, 0);
    for (int tick : new int[] {-1, 20001, MIN, MAX}) {
      due("knows(" + tick + ")", x.knows(tick), -1);
    }
    for (int tick : new int[] {0, 1, 19999, 20000}) {
      due("knows(" + tick + ")", x.knows(tick), 2);
    }
  }

  private static void knownFromItsTickOn() {
    for (int known : new int[] {1, 50, 19999, 20000}) {
      LightScript x = new LightScript();
      x.meter(3, 1, known);
      due("not yet known", x.knows(known - 1), 0);
      due("known", x.knows(known), 3);
      due("still known", x.knows(20000), 3);
    }
  }

  // "the reading KNOWN then with the greatest TICK from which it blows"
  private static void greatestTickFromWhichItBlows() {
    for (int turn = 0; turn < 2; turn++) {
      LightScript x = new LightScript();
      // One that blows from 9, known at 30; one from 10, known at 20; told in either order.
      x.meter(turn == 0 ? 1 : 2, turn == 0 ? 9 : 10, turn == 0 ? 30 : 20);
      x.meter(turn == 0 ? 2 : 1, turn == 0 ? 10 : 9, turn == 0 ? 20 : 30);
      due("neither", x.knows(19), 0);
      due("the one", x.knows(20), 2);
      due("the later one, though the other was known last", x.knows(30), 2);
      due("the later one", x.knows(20000), 2);
      x.meter(3, 11, 25);
      due("a later one", x.knows(24), 2);
      due("a later one", x.knows(25), 3);
      due("a later one", x.knows(30), 3);
    }
  }

  // "(of two alike the one told last)"
  private static void ofTwoAlikeTheLast() {
    LightScript x = new LightScript();
    x.meter(1, 10, 40);
    x.meter(2, 10, 20);
    due("only the second is known", x.knows(39), 2);
    due("of two alike the one told last, not the one known last", x.knows(40), 2);
    x.meter(3, 10, 30);
    due("the third isn't known", x.knows(29), 2);
    due("the third is", x.knows(30), 3);
    due("the third is the last", x.knows(40), 3);
    x.meter(1, 9, 10);
    due("the fourth blows ahead of them", x.knows(19), 1);
    due("the fourth blows ahead of them", x.knows(40), 3);
    x.meter(0, 10, 10);
    due("of WIND 0 too", x.knows(40), 0);
    due("of WIND 0 too", x.knows(10), 0);
    LightScript y = new LightScript();
    y.meter(1, 0, 0);
    y.meter(2, 0, 0);
    due("alike from 0", y.knows(0), 2);
  }

  // "WIND 0 if there is none"
  private static void windZeroIfNone() {
    LightScript x = new LightScript();
    due("none told", x.knows(0), 0);
    due("none told", x.knows(20000), 0);
    x.meter(3, 20000, 20000);
    due("none known", x.knows(0), 0);
    due("none known", x.knows(19999), 0);
    due("one known", x.knows(20000), 3);
  }

  private static void holdTapes() {
    LightScript x = new LightScript();
    for (int d : new int[] {-1, 6, MIN, MAX}) {
      due("hold(" + d + ")", x.hold(d), -1);
    }
    for (int d = 0; d < 6; d++) {
      due("hold nothing", x.hold(d), -11);
      for (int sort = 1; sort <= 4; sort++) {
        x.tape(d, sort, 3);
        x.put(d, 0, 1);
        due("hold of sort " + sort, x.hold(d), sort == 1 ? d : -12);
      }
      x.keep(d);
      due("hold a SHOW", x.hold(d), -12);
    }
    due("count(5)", x.count(5), 6);
    due("count(7)", x.count(7), 6 * 5);
  }

  // "no such ORDER"
  private static void holdOrdersFrom0To8() {
    for (int order : new int[] {-128, -1, 9, 10, 127}) {
      dueFault("order " + order, 0, order, 1, 0);
      dueFault("order " + order, 2, 1, 1, order, 0);
      dueFault("order " + order, 4, 1, 1, 1, 1, order, 1, 0);
    }
    for (int order = 1; order <= 5; order++) {
      dueRule("order " + order, order, 1, 0);
    }
    dueRule("order 6", 1, 1, 1, 1, 6, 0);
    dueRule("order 7", 1, 1, 1, 1, 7, 0);
    dueRule("order 8", 1, 1, 8, 0);
  }

  // "a number lacks or is below 0"
  private static void holdNumbersLackOrBelow0() {
    for (int order = 1; order <= 5; order++) {
      dueFault("order " + order + " lacks its number", 0, order);
      dueFault("order " + order + " lacks its number", 2, 1, 1, order);
      dueFault("order " + order + " has it, but no 0", 2, order, 1);
      for (int number : new int[] {-1, -2, -128}) {
        dueFault("order " + order + " " + number, 0, order, number, 0);
        dueFault("order " + order + " " + number, 2, 1, 1, order, number, 6, 0);
      }
      for (int number : new int[] {0, 1, 127}) {
        dueRule("order " + order + " " + number, order, number, 0);
        dueRule("order " + order + " " + number, 1, 1, order, number, 6, 0);
      }
    }
  }

  // A WIND, BARGE or KIND that isn't told, or is none at all, is no fault in a RULE.
  private static void holdAnyNumber() {
    for (int number : new int[] {4, 6, 12, 100, 127}) {
      dueRule("WIND " + number, 3, number, 0);
      dueRule("BARGE " + number, 4, number, 0);
      dueRule("KIND " + number, 5, number, 0);
    }
  }

  // "too few on the stack"
  private static void holdTooFewOnTheStack() {
    for (int order = 6; order <= 7; order++) {
      dueFault(order + " of none", 0, order, 0);
      dueFault(order + " of one", 2, 1, 1, order, 0);
      dueRule(order + " of two", 1, 1, 1, 1, order, 0);
      dueFault(order + " of two, and again", 5, 1, 1, 1, 1, order, order, 0);
      dueRule(order + " of three, and again", 1, 1, 1, 1, 1, 1, order, order, 0);
      dueFault(order + " of one that is turned", 3, 1, 1, 8, order, 0);
    }
    dueFault("8 of none", 0, 8, 0);
    dueRule("8 of one", 1, 1, 8, 0);
    dueRule("8 of one, and again", 1, 1, 8, 8, 0);
  }

  // "or the ninth on it"
  private static void holdTheNinthOnIt() {
    for (int n = 1; n <= 8; n++) {
      dueRule(n + " on it", stack(n));
    }
    dueFault("nine on it", 16, stack(9));
    dueFault("ten on it", 16, stack(10));
    // Down to seven and up to eight again is well, up to nine isn't.
    int[] again = {1, 0, 1, 0, 1, 0, 1, 0, 1, 0, 1, 0, 1, 0, 1, 0, 6, 1, 0, 6, 6, 6, 6, 6, 6, 6, 0};
    dueRule("eight on it again", again);
    int[] nine = {1, 0, 1, 0, 1, 0, 1, 0, 1, 0, 1, 0, 1, 0, 1, 0, 6, 1, 0, 5, 0, 6, 6, 6, 6, 6, 6, 0};
    dueFault("nine on it then", 19, nine);
    int[] turned = {1, 0, 1, 0, 1, 0, 1, 0, 1, 0, 1, 0, 1, 0, 1, 0, 8, 8, 6, 6, 6, 6, 6, 6, 6, 0};
    dueRule("8 puts none on it", turned);
  }

  // "a 0 when there isn't just one on it"
  private static void holdNotJustOne() {
    dueFault("0 of none", 0, 0);
    dueRule("0 of one", 1, 1, 0);
    dueFault("0 of two", 4, 1, 1, 1, 1, 0);
    dueFault("0 of three", 6, 1, 1, 1, 1, 1, 1, 0);
    dueFault("0 of two of three", 7, 1, 1, 1, 1, 1, 1, 6, 0);
    dueRule("0 of one of three", 1, 1, 1, 1, 1, 1, 6, 7, 0);
  }

  // "the row's length if it has no 0"
  private static void holdNoZero() {
    dueFault("no row", 0);
    dueFault("no 0", 2, 1, 1);
    dueFault("no 0 with two on it", 4, 1, 1, 1, 1);
    dueFault("no 0", 6, 1, 1, 1, 1, 6, 8);
    int[] full = new int[100];
    full[0] = 1;
    for (int i = 2; i < 100; i++) {
      full[i] = 8;
    }
    dueFault("no 0 in a row of 100", 100, full);
    dueRule("more behind the 0", 1, 1, 0, 9, -1);
  }

  private static void holdFirstFault() {
    dueFault("the first of two", 0, 6, 9, 0);
    dueFault("the first of two", 2, 1, 1, 9, 6, 0);
    dueFault("the first of two", 2, 1, 1, 1, -1, 9);
    dueFault("a number isn't an ORDER", 4, 1, 9, 1, 9, 0);
  }

  // "HOLDS 0 .. 7", "FULL: 8"
  private static void eightRules() {
    LightScript x = new LightScript();
    for (int n = 0; n < 8; n++) {
      due("hold", hold(x, 2, n, 0), n);
      due("count(5)", x.count(5), n + 1);
    }
    due("the ninth", hold(x, 2, 9, 0), -2);
    due("the ninth, a fault goes ahead of FULL", hold(x, 2, 9), -102);
    due("the ninth, a fault goes ahead of FULL", hold(x, 9, 9), -100);
    due("the ninth, CAST goes ahead of FULL", x.tape(1, 2, 3) + x.hold(1), 3 - 12);
    due("the ninth, NOTHING goes ahead of FULL", x.hold(5), -11);
    due("the ninth, NONE goes ahead of FULL", x.hold(6), -1);
    due("count(5)", x.count(5), 8);
    due("holdless", x.holdless(), 8);
    due("hold", hold(x, 2, 9, 0), 0);
  }

  // "or more than 20 ORDERS (the 0 at the end isn't one of them)"
  private static void twentyOrders() {
    for (int n = 18; n <= 24; n++) {
      LightScript x = new LightScript();
      due(n + " orders", hold(x, orders(n)), n <= 20 ? 0 : -2);
      due("count(5)", x.count(5), n <= 20 ? 1 : 0);
    }
    // 11 with numbers and 10 without are 21; their bytes are 32 and the 0.
    int[] row = new int[33];
    int at = 0;
    for (int i = 0; i < 11; i++) {
      row[at++] = 2;
      at++;
      if (i > 0) {
        row[at++] = 7;
      }
    }
    LightScript x = new LightScript();
    due("21 orders", hold(x, row), -2);
    row[31] = 0;
    due("20 orders, two on it", hold(x, row), -131);
    int[] twenty = new int[31];
    System.arraycopy(row, 0, twenty, 0, 29);
    twenty[29] = 8;
    due("20 orders in 30 bytes", hold(x, twenty), 0);
    int[] many = orders(40);
    due("40 orders", hold(x, many), -2);
    many[41] = 6;
    due("40 orders with a fault", hold(x, many), -141);
    due("98 orders", hold(x, orders(98)), -2);
    due("count(5)", x.count(5), 1);
  }

  private static void holdlessCounts() {
    LightScript x = new LightScript();
    for (int n = 0; n <= 8; n++) {
      for (int i = 0; i < n; i++) {
        due("hold", hold(x, 2, 0, 0), i);
      }
      due("holdless", x.holdless(), n);
      due("count(5)", x.count(5), 0);
    }
    due("holdless", x.holdless(), 0);
  }

  // "0 none, 1 .. 5 late, 6 a DUD: what it was. NONE."
  private static void faultNumbers() {
    LightScript x = new LightScript();
    x.kind(0, 5, 50, 0, 1010);
    due("fault, no CUES", x.fault(0, 0), -1);
    row(x, 0, 2, 1, 3, 0, -1, 3, 0);
    due("write", x.write(0), 3);
    for (int c : new int[] {-1, 3, 119, 120, MIN, MAX}) {
      due("fault(" + c + ")", x.fault(c, 0), -1);
      due("fault(" + c + ")", x.fault(c, 6), -1);
    }
    for (int c = 0; c < 3; c++) {
      int was = 0;
      for (int what : new int[] {0, 1, 2, 3, 4, 5, 6, 6, 0, 5}) {
        for (int no : new int[] {-1, 7, MIN, MAX}) {
          due("fault " + no, x.fault(c, no), -1);
        }
        due("fault " + what, x.fault(c, what), was);
        was = what;
      }
    }
    due("each has its own", x.fault(0, 1), 5);
    due("each has its own", x.fault(1, 2), 5);
    due("each has its own", x.fault(0, 0), 1);
    due("each has its own", x.fault(1, 0), 2);
    due("each has its own", x.fault(2, 0), 5);
    row(x, 0, 2, 1, 6, 8, 6, 5, 3, 0, -1, 3, 7, 7, 0);
    due("write", x.write(0), 120);
    due("fault(119)", x.fault(119, 6), 0);
    due("fault(119)", x.fault(119, 0), 6);
    due("fault(120)", x.fault(120, 0), -1);
  }

  // "(-1: none): the one it was (-1: none). NONE: not -1 .. 20000."
  private static void haltTicks() {
    LightScript x = new LightScript();
    int was = -1;
    for (int tick : new int[] {-1, 0, 1, 19999, 20000, 20000, -1, 20000}) {
      for (int no : new int[] {-2, 20001, MIN, MAX}) {
        due("halt(" + no + ")", x.halt(no), -1);
      }
      due("halt(" + tick + ")", x.halt(tick), was);
      was = tick;
    }
    due("halt", x.halt(-1), 20000);
  }
}
