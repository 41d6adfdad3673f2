// Promises 14 and 15: lay, proof.
public final class LayTest {
  private static int wrong = 0;

  private static void due(String call, long got, long want) {
    if (got != want) {
      wrong++;
      System.out.println(call + " answered " + got + ", due is " + want);
    }
  }

  private static void row(LightScript x, int d, int... row) {
    x.tape(d, 1, row.length);
    for (int i = 0; i < row.length; i++) {
      x.put(d, i, row[i]);
    }
  }

  private static int write(LightScript x, int... row) {
    row(x, 0, row);
    return x.write(0);
  }

  private static int proof(LightScript x, int n, int... row) {
    row(x, 1, row);
    return x.proof(1, n);
  }

  private static void dueBarges(String name, LightScript x, int... want) {
    due(name + ": cues", x.count(2), want.length);
    for (int c = 0; c < want.length; c++) {
      due(name + ": barge of " + c, x.cue(c, 2), want[c]);
    }
  }

  /** Two barges far from one another, a kind that stays cold; KIND 1 has a LIFT of 3 more. */
  private static LightScript desk(int channels0, int channels1) {
    LightScript x = new LightScript();
    x.kind(0, 5, 50, 0, 1010);
    x.kind(1, 8, 50, 0, 1010);
    x.barge(0, 5, 5, channels0);
    x.barge(1, 25, 25, channels1);
    return x;
  }

  public static void main(String[] args) {
    refused();
    noneOpen();
    leastGreatest();
    fixedOnesCount();
    channels();
    gap();
    gapOfFires();
    holdsTheKind();
    safeInWinds();
    eightOpen();
    proofRefused();
    proofOfRows();
    proofAlone();
    proofByEachRule();
    System.out.println(wrong == 0 ? "all answers are as due" : wrong + " answers are not as due");
    if (wrong != 0) {
      System.exit(1);
    }
  }

  private static void refused() {
    LightScript x = desk(40, 40);
    due("lay n", x.lay(-1), -1);
    due("lay n", x.lay(5), -1);
    due("write", write(x, 6, 9, 2, 1, 1, 0, -1, 0, 7, 0), 9);
    due("lay nine", x.lay(0), -4);
    due("lay n", x.lay(5), -1);
    due("place", x.place(4, 1), -1);
    due("lay eight", x.lay(4), 5);
    dueBarges("nine", x, 0, 0, 0, 0, 1, 0, 1, 1, 1);
    LightScript y = new LightScript();
    y.kind(0, 5, 50, 0, 1010);
    due("write", write(y, 2, 1, 1, 0, -1, 0, 0), 1);
    due("lay without barges", y.lay(0), -3);
    due("still open", y.cue(0, 2), -1);
    due("count(7)", y.count(7), 0);
  }

  private static void noneOpen() {
    LightScript x = desk(1, 40);
    due("lay nothing", x.lay(0), 0);
    due("write", write(x, 6, 3, 2, 1, 1, 0, 0, 0, 7, 1, 0, 1, 0, 0), 4);
    due("lay none: more than its channels, but it gets none", x.lay(4), 3);
    due("proof none", proof(x, 4), 3);
    due("proof none of more", proof(x, 4, 99), 3);
  }

  private static void leastGreatest() {
    LightScript x = desk(40, 40);
    due("write", write(x, 6, 3, 2, 1, 1, 0, -1, 0, 7, 0), 3);
    due("lay", x.lay(0), 2);
    dueBarges("the first of the least", x, 0, 0, 1);
    x.barge(3, 25, 5, 40);
    write(x, 6, 3, 2, 1, 1, 0, -1, 0, 7, 0);
    due("lay", x.lay(0), 1);
    dueBarges("three barges", x, 0, 1, 3);
    due("lay again", x.lay(0), 1);
  }

  private static void fixedOnesCount() {
    LightScript x = desk(40, 40);
    due("write", write(x, 6, 3, 2, 1, 1, 0, 0, 0, 7, 2, 1, 1, 0, -1, 0, 2, 1, 1, 0, -1, 0, 0), 5);
    due("lay beside fixed ones", x.lay(0), 3);
    dueBarges("beside fixed ones", x, 0, 0, 0, 1, 1);
    // The greatest number is that of barge 1 anyway, so the open one goes to the first barge.
    due("write", write(x, 6, 3, 2, 1, 1, 0, 1, 0, 7, 2, 1, 1, 0, -1, 0, 2, 1, 1, 0, -1, 0, 0), 5);
    due("lay beside fixed ones", x.lay(0), 3);
    dueBarges("beside fixed ones", x, 1, 1, 1, 0, 0);
    due("write", write(x, 6, 3, 2, 1, 1, 0, 1, 0, 7, 6, 4, 2, 1, 1, 0, -1, 0, 7, 0), 7);
    due("lay beside fixed ones", x.lay(0), 4);
    dueBarges("beside fixed ones", x, 1, 1, 1, 0, 0, 0, 0);
    x.place(3, -1);
    x.place(6, -1);
    due("lay two anew", x.lay(0), 4);
    dueBarges("two anew", x, 1, 1, 1, 0, 0, 0, 0);
    x.place(3, 1);
    x.place(6, -1);
    due("lay one anew", x.lay(0), 4);
    dueBarges("one anew", x, 1, 1, 1, 1, 0, 0, 0);
  }

  private static void channels() {
    LightScript x = desk(1, 2);
    int[] three = {6, 3, 2, 1, 1, 0, -1, 0, 7, 0};
    due("write", write(x, three), 3);
    due("lay", x.lay(0), 2);
    dueBarges("channels", x, 0, 1, 1);
    x.barge(1, 25, 25, 1);
    write(x, three);
    due("lay, too few channels", x.lay(0), -3);
    dueBarges("what is refused changes nothing", x, -1, -1, -1);
    x.place(0, 0);
    due("lay, too few channels", x.lay(0), -3);
    x.place(1, 0);
    due("lay, a fixed one may be too many", x.lay(0), 2);
    dueBarges("a fixed one too many", x, 0, 0, 1);
    x.barge(0, 5, 5, 3);
    x.place(2, -1);
    x.place(1, 1);
    due("lay, a fixed one takes a channel", x.lay(0), 2);
    dueBarges("a fixed one takes a channel", x, 0, 1, 0);
  }

  private static void gap() {
    LightScript x = desk(40, 40);
    // FIRES 5, 7, 8: bursts 10, 12, 13.
    int[] close = {2, 1, 1, 0, -1, 0, 8, 1, 2, 2, 1, 0, -1, 0, 2, 1, 1, 0, -1, 0, 0};
    due("write", write(x, close), 3);
    due("lay, 2 apart", x.lay(0), 2);
    dueBarges("2 apart", x, 0, 0, 1);
    write(x, close);
    x.apart(3);
    due("lay, 3 apart", x.lay(0), 2);
    dueBarges("3 apart", x, 0, 1, 0);
    write(x, close);
    x.apart(4);
    due("lay, 4 apart", x.lay(0), -3);
    x.apart(1);
    due("lay, 1 apart", x.lay(0), 2);
    dueBarges("1 apart", x, 0, 0, 1);
    int[] alike = {2, 1, 3, 0, -1, 3, 0};
    write(x, alike);
    due("lay alike, 1 apart", x.lay(0), -3);
    x.apart(0);
    due("lay alike, 0 apart", x.lay(0), 2);
    dueBarges("0 apart", x, 0, 0, 1);
    // Fixed ones that are close don't matter, one fixed and one open do.
    write(x, 2, 1, 1, 0, 0, 0, 1, 0, 0, 0, 1, 0, -1, 0, 0);
    x.apart(2);
    due("lay, fixed ones close", x.lay(0), 2);
    dueBarges("fixed ones close", x, 0, 0, 1);
    write(x, 2, 1, 1, 0, 0, 0, 1, 0, -1, 0, 0);
    due("proof, close to one fixed", proof(x, 0, 0), -100);
    due("lay, close to one fixed", x.lay(0), 1);
    dueBarges("close to one fixed", x, 0, 1);
    write(x, 2, 1, 1, 0, -1, 0, 1, 0, 0, 0, 0);
    due("proof, close to one fixed behind", proof(x, 0, 0), -100);
    due("lay, close to one fixed behind", x.lay(0), 1);
    dueBarges("close to one fixed behind", x, 1, 0);
    write(x, 2, 1, 1, 0, -1, 0, 8, 1, 2, 1, 1, 0, 1, 0, 1, 0, 0, 0, 0);
    due("lay, an open one before fixed ones", x.lay(0), -3);
    x.apart(1);
    due("lay, an open one before fixed ones", x.lay(0), 2);
    dueBarges("before fixed ones", x, 0, 1, 0);
  }

  private static void gapOfFires() {
    LightScript x = desk(40, 1);
    x.place(0, 0);
    // Bursts 10 and 13, but FIRES 5 and 5.
    due("write", write(x, 2, 1, 1, 0, 0, 0, 8, 1, 2, 3, 1, 1, -1, 0, 0), 2);
    x.apart(1);
    due("lay, fires alike", x.lay(0), 1);
    dueBarges("fires alike", x, 0, 1);
    // Bursts alike, FIRES 5 and 2.
    x.apart(3);
    due("write", write(x, 2, 1, 1, 0, -1, 0, 1, 1, -1, 0, 1, 0, 1, 0, 0), 3);
    due("lay, bursts alike", x.lay(0), 2);
    dueBarges("bursts alike", x, 0, 0, 1);
    x.apart(4);
    x.place(0, -1);
    x.place(1, -1);
    due("lay, bursts alike", x.lay(0), -3);
  }

  private static void holdsTheKind() {
    LightScript x = desk(40, 40);
    x.cell(6, 5, 2);
    write(x, 6, 2, 2, 1, 1, 0, -1, 0, 7, 1, 0, 0, 0, 0);
    due("lay, one may not hold it", x.lay(0), 2);
    dueBarges("one may not hold it, but it has a fixed one", x, 1, 1, 0);
    x.cell(26, 25, 2);
    x.place(0, -1);
    due("lay, none may hold it", x.lay(0), -3);
  }

  private static void safeInWinds() {
    LightScript x = desk(40, 40);
    x.kind(2, 5, 10, 0, 4010);
    x.wind(1, 0, 50, 0);
    x.wind(3, 0, 0, 50);
    x.cell(6, 5, 1);
    x.cell(25, 26, 1);
    int[] two = {6, 2, 2, 1, 1, 2, -1, 0, 7, 0};
    for (int n = 0; n <= 1; n++) {
      write(x, two);
      due("lay in winds below " + n, x.lay(n), 1);
      dueBarges("in winds below " + n, x, 0, 1);
    }
    for (int n = 2; n <= 3; n++) {
      write(x, two);
      due("lay in winds below " + n, x.lay(n), 2);
      dueBarges("in winds below " + n, x, 1, 1);
    }
    write(x, two);
    due("lay in all winds", x.lay(4), -3);
    dueBarges("what is refused changes nothing", x, -1, -1);
    // At its ANGLE: from height 50 an angle of 4 reaches the next cell.
    x.begin();
    x.kind(0, 5, 50, 0, 20010);
    x.barge(0, 5, 5, 9);
    x.cell(6, 5, 1);
    write(x, 2, 1, 1, 0, -1, 4, 0);
    due("lay at its angle", x.lay(1), -3);
    due("lay at its angle in no wind", x.lay(0), 1);
    write(x, 2, 1, 1, 0, -1, 1, 0);
    due("lay at its angle", x.lay(1), 1);
  }

  private static void eightOpen() {
    LightScript x = new LightScript();
    x.kind(0, 5, 50, 0, 1010);
    for (int s = 0; s < 6; s++) {
      x.barge(s, 4 * s, 10, 40);
    }
    due("write", write(x, 6, 8, 2, 1, 1, 0, -1, 0, 7, 0), 8);
    due("lay", x.lay(4), 2);
    dueBarges("eight", x, 0, 0, 1, 1, 2, 2, 3, 3);
    // All eight at once: there are but six barges.
    due("write", write(x, 2, 1, 3, 0, -1, 4, 3, 0, -1, 4, 0), 8);
    due("lay", x.lay(0), -3);
    x.apart(0);
    due("lay", x.lay(0), 2);
    dueBarges("eight at once", x, 0, 0, 1, 1, 2, 2, 3, 3);
    due("write", write(x, 2, 1, 3, 0, -1, 4, 3, 0, -1, 2, 0), 6);
    x.apart(20);
    due("lay", x.lay(0), 1);
    dueBarges("six at once", x, 0, 1, 2, 3, 4, 5);
  }

  private static void proofRefused() {
    LightScript x = desk(40, 40);
    due("proof d", x.proof(-1, 0), -1);
    due("proof d", x.proof(6, 0), -1);
    due("proof n", x.proof(0, -1), -1);
    due("proof n", x.proof(0, 5), -1);
    due("proof nothing", x.proof(1, 0), -11);
    write(x, 6, 9, 2, 1, 1, 0, -1, 0, 7, 0);
    due("proof nine", x.proof(0, 0), -4);
    due("proof nine of nothing", x.proof(1, 0), -4);
    due("proof nine, no such n", x.proof(1, 5), -1);
    due("count(7)", x.count(7), 1);
    x.place(0, 0);
    due("proof nothing", x.proof(1, 4), -11);
    for (int sort = 2; sort <= 4; sort++) {
      x.tape(1, sort, 8);
      due("proof of sort " + sort, x.proof(1, 0), -12);
    }
    x.keep(1);
    due("proof of a show", x.proof(1, 0), -12);
    due("count(7)", x.count(7), 6);
  }

  private static void proofOfRows() {
    LightScript x = desk(40, 40);
    write(x, 6, 3, 2, 1, 1, 0, -1, 0, 7, 0);
    due("proof", proof(x, 4, 0, 0, 0), 3);
    due("proof", proof(x, 4, 0, 1, 0), 2);
    due("proof, more than are open", proof(x, 4, 1, 1, 1, 99, -7), 3);
    due("proof, no barge", proof(x, 4, 2, 0, 0), -100);
    due("proof, no barge", proof(x, 4, 0, -1, 0), -101);
    due("proof, no barge", proof(x, 4, 0, 0, 6), -102);
    due("proof, no barge", proof(x, 4, 0, 127, -128), -101);
    due("proof, too few", proof(x, 4, 0, 0), -13);
    due("proof, too few", proof(x, 4), -13);
    due("proof, too few and one wrong", proof(x, 4, 0, 5), -101);
    due("count(7)", x.count(7), 2);
    dueBarges("proof lays none", x, -1, -1, -1);
    x.place(1, 0);
    due("proof, by the open ones", proof(x, 4, 0, 1), 2);
    due("proof, by the open ones", proof(x, 4, 0, 0), 3);
    due("proof, by the open ones", proof(x, 4, 1, 1), 2);
    due("proof, too few", proof(x, 4, 0), -13);
  }

  private static void proofAlone() {
    LightScript x = desk(2, 40);
    // The first two alone fill barge 0; the third breaks it.
    write(x, 6, 4, 2, 1, 1, 0, -1, 0, 7, 0);
    due("proof", proof(x, 0, 0, 0, 0, 1), -102);
    due("proof", proof(x, 0, 0, 0, 1, 0), -103);
    due("proof", proof(x, 0, 0, 1, 1, 0), 2);
    x.place(3, 0);
    due("proof beside a fixed one behind", proof(x, 0, 0, 0, 1), -101);
    due("proof beside a fixed one behind", proof(x, 0, 0, 1, 1), 2);
    x.apart(10);
    due("proof 10 apart", proof(x, 0, 0, 1, 1), 2);
    x.apart(11);
    due("proof 11 apart", proof(x, 0, 0, 1, 1), -102);
    due("proof 11 apart", proof(x, 0, 0, 1, 0), -102);
    due("proof 11 apart", proof(x, 0, 1, 0, 1), 2);
  }

  private static void proofByEachRule() {
    LightScript x = desk(40, 40);
    x.kind(2, 5, 10, 0, 4010);
    x.wind(1, 0, 50, 0);
    x.cell(6, 5, 1);
    write(x, 6, 2, 2, 1, 1, 2, -1, 0, 7, 0);
    due("proof in no wind", proof(x, 0, 0, 0), 2);
    due("proof in wind 0", proof(x, 1, 0, 0), 2);
    due("proof in wind 1", proof(x, 2, 1, 0), -101);
    due("proof in wind 1", proof(x, 4, 1, 1), 2);
    x.cell(25, 25, 2);
    due("proof by a crowd", proof(x, 0, 1, 1), -100);
    due("proof by a crowd", proof(x, 0, 0, 1), -101);
    x.place(1, 1);
    due("proof, fixed by a crowd", proof(x, 0, 0), 1);
  }
}
