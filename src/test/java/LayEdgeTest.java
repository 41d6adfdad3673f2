// The boundaries that part III and promises 14 and 15 name, each on both its sides.
public final class LayEdgeTest {
  private static final int MIN = Integer.MIN_VALUE;
  private static final int MAX = Integer.MAX_VALUE;
  private static int wrong = 0;

  private static void due(String call, long got, long want) {
    if (got != want) {
      wrong++;
      System.out.println(call + " answered " + got + ", due is " + want);
    }
  }

  private static void row(LightScript x, int d, int... row) {
    x.tape(d, 1, row.length);
    for (int i = 0; i < row.length; i++) {
      if (row[i] != 0) {
        x.put(d, i, row[i]);
      }
    }
  }

  private static int write(LightScript x, int... row) {
    row(x, 0, row);
    return x.write(0);
  }

  private static int proof(LightScript x, int n, int... row) {
    row(x, 1, row);
    return x.proof(1, n);
  }

  private static void dueBarges(String name, LightScript x, int... want) {
    for (int c = 0; c < want.length; c++) {
      due(name + ": barge of " + c, x.cue(c, 2), want[c]);
    }
  }

  /** KIND 0 stays cold; barges far from one another. */
  private static LightScript desk(int... channels) {
    LightScript x = new LightScript();
    x.kind(0, 5, 50, 0, 1010);
    for (int s = 0; s < channels.length; s++) {
      if (channels[s] > 0) {
        x.barge(s, 5 * s + 2, 16, channels[s]);
      }
    }
    return x;
  }

  /** So many OPEN CUES, 10 TICKS apart. */
  private static int[] open(int cues) {
    int[] row = new int[6 * cues + 1];
    for (int c = 0; c < cues; c++) {
      int[] one = {2, 1, 1, 0, -1, 0};
      System.arraycopy(one, 0, row, 6 * c, 6);
    }
    return row;
  }

  public static void main(String[] args) {
    windsFrom0To4();
    eachWindInItsTurn();
    eightOpenOnes();
    noneOpen();
    noLaying();
    toldBargesAlone();
    channelsOfOneThatGetsOne();
    channelsOf40();
    channelsOfOneThatGetsNone();
    gapBetweenOpenOnes();
    gapToAFixedOne();
    gapBetweenFixedOnes();
    gapOfFires();
    gapAtFirst();
    holdsOpenOnesAlone();
    safeOpenOnesAlone();
    safeAtItsAngle();
    leastGreatest();
    firstInOrder();
    fillsWhatLay();
    firstGivesWay();
    eachPairOfEight();
    fixedOnEachBarge();
    hundredTwentyOnOne();
    laysBargesAlone();
    proofTapes();
    proofOpenOnes();
    proofTooFew();
    proofNoBarge();
    proofFirstThatBreaks();
    proofChannels();
    proofGap();
    proofGreatest();
    System.out.println(wrong == 0 ? "all answers are as due" : wrong + " answers are not as due");
    if (wrong != 0) {
      System.exit(1);
    }
  }

  // "NONE: n is not 0 .. 4", of lay and of proof
  private static void windsFrom0To4() {
    for (int n : new int[] {-1, 5, MIN, MAX}) {
      LightScript x = desk(9);
      due("write", write(x, open(1)), 1);
      due("lay(" + n + ")", x.lay(n), -1);
      due("proof(" + n + ")", proof(x, n, 0), -1);
      dueBarges("not laid", x, -1);
    }
    for (int n = 0; n <= 4; n++) {
      LightScript x = desk(9);
      due("write", write(x, open(1)), 1);
      due("proof(" + n + ")", proof(x, n, 0), 1);
      dueBarges("proof lays none", x, -1);
      due("lay(" + n + ")", x.lay(n), 1);
      dueBarges("laid", x, 0);
    }
  }

  // "SAFE in the WINDS 0 .. n - 1": WIND n is left out, WIND n - 1 isn't.
  private static void eachWindInItsTurn() {
    for (int bad = 0; bad < 4; bad++) {
      for (int n = 0; n <= 4; n++) {
        LightScript x = desk(9);
        x.kind(0, 5, 10, 0, 4010);
        x.cell(3, 16, 1);
        x.wind(bad, 0, 50, 0);
        write(x, open(1));
        due("proof(" + n + "), WIND " + bad + " is bad", proof(x, n, 0), bad < n ? -100 : 1);
        due("lay(" + n + "), WIND " + bad + " is bad", x.lay(n), bad < n ? -3 : 1);
        dueBarges("WIND " + bad, x, bad < n ? -1 : 0);
      }
    }
  }

  // "SPENT: more than 8 CUES are OPEN"
  private static void eightOpenOnes() {
    for (int cues = 7; cues <= 10; cues++) {
      LightScript x = desk(40);
      due("write", write(x, open(cues)), cues);
      int[] zeros = new int[cues];
      due("proof of " + cues, proof(x, 4, zeros), cues > 8 ? -4 : cues);
      due("lay of " + cues, x.lay(4), cues > 8 ? -4 : cues);
      due("OPEN then", x.count(3), cues > 8 ? cues : 0);
    }
    LightScript x = desk(40);
    write(x, open(12));
    for (int c = 0; c < 3; c++) {
      x.place(c, 0);
    }
    due("lay of nine of twelve", x.lay(4), -4);
    x.place(11, 0);
    due("lay of eight of twelve", x.lay(4), 12);
  }

  private static void noneOpen() {
    LightScript x = desk(1, 40);
    due("lay no CUES", x.lay(0), 0);
    due("proof of no CUES", proof(x, 0), 0);
    due("proof of no CUES, a longer row", proof(x, 0, 9, 9), 0);
    due("write", write(x, 2, 1, 3, 0, 0, 4, 3, 0, 1, 3, 0), 7);
    due("lay none, four on a barge of one channel", x.lay(4), 4);
    due("proof of none", proof(x, 4), 4);
    LightScript y = new LightScript();
    due("lay no CUES, no barges", y.lay(4), 0);
  }

  // "UNABLE: there is none"
  private static void noLaying() {
    LightScript x = new LightScript();
    x.kind(0, 5, 50, 0, 1010);
    due("write", write(x, open(2)), 2);
    due("lay, no barges", x.lay(0), -3);
    x.barge(3, 5, 5, 1);
    due("lay, one channel for two", x.lay(0), -3);
    dueBarges("none of them is laid", x, -1, -1);
    x.barge(3, 5, 5, 2);
    due("lay, two channels for two", x.lay(0), 2);
    dueBarges("laid", x, 3, 3);
  }

  // "gives each OPEN CUE a BARGE": one that was told.
  private static void toldBargesAlone() {
    for (int s = 0; s < 6; s++) {
      LightScript x = new LightScript();
      x.kind(0, 5, 50, 0, 1010);
      x.barge(s, 31, 0, 3);
      write(x, open(3));
      due("lay on BARGE " + s, x.lay(4), 3);
      dueBarges("on BARGE " + s, x, s, s, s);
      for (int other = 0; other < 6; other++) {
        write(x, open(1));
        due("proof on BARGE " + other, proof(x, 4, other), other == s ? 1 : -100);
      }
    }
  }

  // "no BARGE that gets one has more CUES than CHANNELS"
  private static void channelsOfOneThatGetsOne() {
    for (int channels = 1; channels <= 5; channels++) {
      for (int fixed = 0; fixed <= 5; fixed++) {
        for (int cues = 1; cues <= 3; cues++) {
          LightScript x = desk(channels);
          write(x, open(fixed + cues));
          for (int c = 0; c < fixed; c++) {
            // Every other one is behind the OPEN ones.
            x.place(c % 2 == 0 ? c / 2 : fixed + cues - 1 - c / 2, 0);
          }
          String name = channels + " channels for " + fixed + " and " + cues;
          boolean fits = fixed + cues <= channels;
          due("lay, " + name, x.lay(0), fits ? fixed + cues : -3);
          due("OPEN, " + name, x.count(3), fits ? 0 : cues);
        }
      }
    }
  }

  private static void channelsOf40() {
    for (int fixed = 38; fixed <= 41; fixed++) {
      LightScript x = desk(40);
      due("write", write(x, 6, 8, 6, 5, 2, 1, 1, 0, 0, 0, 7, 7, 2, 1, 3, 0, -1, 1,
          2, 1, 3, 0, 0, 1, 0), 42);
      // 41 are fixed; some are taken to another barge.
      x.barge(1, 20, 16, 1);
      for (int c = 0; c < 41 - fixed; c++) {
        x.place(c, 1);
      }
      due("proof beside " + fixed, proof(x, 4, 0), fixed < 40 ? fixed + 1 : -100);
      x.barge(1, 20, 16, 1);
      int other = 41 - fixed;
      due("lay beside " + fixed, x.lay(4), fixed < 40 ? fixed + 1 : fixed == 41 ? 41 : -3);
      due("its barge", x.cue(40, 2), fixed < 40 ? 0 : other == 0 ? 1 : -1);
    }
  }

  private static void channelsOfOneThatGetsNone() {
    LightScript x = desk(1, 3);
    write(x, 2, 1, 1, 0, 0, 0, 2, 1, 1, 0, 0, 0, 2, 1, 1, 0, -1, 0, 0);
    due("proof on the full one", proof(x, 0, 0), -100);
    due("proof on the other", proof(x, 0, 1), 2);
    due("lay on the other", x.lay(0), 2);
    dueBarges("on the other", x, 0, 0, 1);
  }

  /** Two CUES whose FIRES are so many TICKS apart, on the one barge there is. */
  private static LightScript two(int s, int ticks, int t) {
    LightScript x = desk(40);
    int[] row = {8, 50, 2, 1, 1, 0, s, 0, 8, ticks == 0 ? 1 : ticks, 2, 1, 1, 0, t, 0, 0};
    if (ticks == 0) {
      row = new int[] {8, 50, 2, 1, 1, 0, s, 0, 1, 0, t, 0, 0};
    }
    due("write", write(x, row), 2);
    due("their FIRES", x.cue(1, 4) - x.cue(0, 4), ticks);
    return x;
  }

  // "have FIRES that are G TICKS (0 .. 20 ...) or more apart"
  private static void gapBetweenOpenOnes() {
    for (int g = 0; g <= 20; g++) {
      for (int ticks = Math.max(0, g - 2); ticks <= g + 1; ticks++) {
        LightScript x = two(-1, ticks, -1);
        x.apart(g);
        due("proof, " + ticks + " apart, G " + g, proof(x, 0, 0, 0), ticks >= g ? 2 : -101);
        due("lay, " + ticks + " apart, G " + g, x.lay(0), ticks >= g ? 2 : -3);
        dueBarges("lay", x, ticks >= g ? 0 : -1, ticks >= g ? 0 : -1);
      }
    }
  }

  // "one of which at least was OPEN"
  private static void gapToAFixedOne() {
    for (int g = 0; g <= 20; g += 5) {
      for (int ticks = Math.max(0, g - 1); ticks <= g + 1; ticks++) {
        for (int first = -1; first <= 0; first++) {
          LightScript x = two(first, ticks, -1 - first);
          x.apart(g);
          String name = ticks + " apart, G " + g + (first == 0 ? ", fixed ahead" : ", fixed behind");
          due("proof, " + name, proof(x, 0, 0), ticks >= g ? 2 : -100);
          due("lay, " + name, x.lay(0), ticks >= g ? 2 : -3);
          due("OPEN, " + name, x.count(3), ticks >= g ? 0 : 1);
        }
      }
    }
  }

  private static void gapBetweenFixedOnes() {
    LightScript x = two(0, 0, 0);
    x.apart(20);
    due("lay none", x.lay(0), 2);
    due("proof of none", proof(x, 0), 2);
    // One more, 20 behind them.
    due("write", write(x, 8, 50, 2, 1, 3, 0, 0, 2, 8, 20, 2, 1, 1, 0, -1, 0, 0), 3);
    due("proof, 20 behind two at once", proof(x, 0, 0), 3);
    due("lay, 20 behind two at once", x.lay(0), 3);
    due("write", write(x, 8, 50, 2, 1, 3, 0, 0, 2, 8, 19, 2, 1, 1, 0, -1, 0, 0), 3);
    due("proof, 19 behind two at once", proof(x, 0, 0), -100);
    due("lay, 19 behind two at once", x.lay(0), -3);
  }

  private static void gapOfFires() {
    // LIFTS 5 and 8: of BURSTS alike the FIRES are 3 apart, of BURSTS 3 apart they are alike.
    for (int g = 0; g <= 5; g++) {
      LightScript x = desk(40);
      x.kind(1, 8, 50, 0, 1010);
      x.apart(g);
      write(x, 2, 1, 1, 0, -1, 0, 1, 1, -1, 0, 0);
      due("lay, BURSTS alike, G " + g, x.lay(0), g <= 3 ? 2 : -3);
      write(x, 2, 1, 1, 0, -1, 0, 8, 3, 2, 1, 1, 1, -1, 0, 0);
      due("lay, FIRES alike, G " + g, x.lay(0), g == 0 ? 2 : -3);
      due("proof, FIRES alike, G " + g, proof(x, 0, 0, 0), g == 0 ? 2 : -101);
    }
  }

  // "2 at first"
  private static void gapAtFirst() {
    due("lay, 1 apart", two(-1, 1, -1).lay(0), -3);
    due("lay, 2 apart", two(-1, 2, -1).lay(0), 2);
    LightScript x = desk(40);
    x.apart(20);
    x.begin();
    x.kind(0, 5, 50, 0, 1010);
    x.barge(0, 5, 5, 40);
    write(x, 8, 2, 2, 5, 1, 0, -1, 0, 2, 1, 1, 0, -1, 0, 0);
    due("lay, 2 apart after begin", x.lay(0), 2);
    write(x, 8, 1, 2, 5, 1, 0, -1, 0, 2, 1, 1, 0, -1, 0, 0);
    due("lay, 1 apart after begin", x.lay(0), -3);
  }

  // "a BARGE HOLDS the KIND of each of its CUES that was OPEN"
  private static void holdsOpenOnesAlone() {
    // HEIGHT 80 reaches two cells, HEIGHT 79 but one.
    for (int height = 79; height <= 80; height++) {
      LightScript x = desk(40, 40);
      x.kind(1, 5, height, 0, 1010);
      x.cell(4, 16, 2);
      write(x, 2, 1, 1, 1, 0, 0, 2, 1, 1, 1, -1, 0, 0);
      due("proof beside a fixed one", proof(x, 0, 0), height == 79 ? 2 : -100);
      due("lay beside a fixed one", x.lay(0), 1);
      dueBarges("lay", x, 0, 1);
      x.place(1, -1);
      x.barge(1, 3, 16, 40);
      due("proof on the other", proof(x, 0, 1), -100);
      due("lay", x.lay(0), height == 79 ? 2 : -3);
      write(x, 2, 1, 1, 1, 0, 0, 2, 1, 1, 0, -1, 0, 0);
      x.kind(0, 5, 39, 0, 1010);
      due("another KIND beside a fixed one", proof(x, 0, 0), 2);
    }
  }

  // "such a one is SAFE"
  private static void safeOpenOnesAlone() {
    LightScript x = desk(40, 40);
    x.kind(1, 5, 10, 0, 4010);
    x.cell(2, 16, 1);
    write(x, 2, 1, 1, 1, 0, 0, 2, 1, 1, 0, -1, 0, 0);
    due("a cold one beside a fixed one that isn't SAFE", proof(x, 4, 0), 2);
    due("lay the cold one", x.lay(4), 1);
    x.place(0, -1);
    due("proof of the hot one", proof(x, 4, 0), -100);
    due("proof of the hot one in no wind", proof(x, 0, 0), 1);
    due("lay the hot one in no wind", x.lay(0), 1);
    dueBarges("in no wind", x, 0, 1);
    x.place(0, -1);
    due("lay the hot one", x.lay(4), 2);
    dueBarges("in winds", x, 1, 1);
  }

  private static void safeAtItsAngle() {
    for (int angle = -4; angle <= 4; angle++) {
      LightScript x = desk(40);
      x.kind(0, 5, 50, 0, 20010);
      // X 500 and 50 for each: from 2 on in the cell of land at 600.
      x.cell(3, 16, 1);
      write(x, 2, 1, 1, 0, -1, angle, 0);
      due("proof at " + angle, proof(x, 1, 0), angle >= 2 ? -100 : 1);
      due("lay at " + angle, x.lay(1), angle >= 2 ? -3 : 1);
    }
  }

  // "The BEST one has the least greatest number of CUES on a BARGE"
  private static void leastGreatest() {
    for (int barges = 1; barges <= 6; barges++) {
      for (int cues = 1; cues <= 8; cues++) {
        int[] channels = new int[barges];
        java.util.Arrays.fill(channels, 40);
        LightScript x = desk(channels);
        write(x, open(cues));
        int least = (cues + barges - 1) / barges;
        due("lay " + cues + " on " + barges, x.lay(4), least);
        for (int c = 0; c < cues; c++) {
          due("barge " + c + " of " + cues + " on " + barges, x.cue(c, 2), firstOf(c, cues, least,
              barges));
        }
      }
    }
  }

  /** The first in order that has no more than so many on a barge: barge by barge filled. */
  private static int firstOf(int c, int cues, int least, int barges) {
    return Math.min(c / least, barges - 1);
  }

  // "of these the first by the BARGES of the OPEN CUES in order"
  private static void firstInOrder() {
    LightScript x = desk(40, 40, 40);
    // Barge 2 has three anyway, so the others may have as many: the first takes all of them.
    write(x, open(7));
    x.place(0, 2);
    x.place(3, 2);
    x.place(6, 2);
    due("lay", x.lay(0), 3);
    dueBarges("lay", x, 2, 0, 0, 2, 0, 1, 2);
    // The first CUE may not go on barge 0: it is too close to a fixed one there.
    write(x, 2, 1, 1, 0, 0, 0, 1, 0, -1, 0, 2, 1, 1, 0, -1, 0, 2, 1, 1, 0, -1, 0, 0);
    due("lay", x.lay(0), 2);
    dueBarges("lay", x, 0, 1, 0, 1);
    write(x, 2, 1, 1, 0, 2, 0, 2, 1, 1, 0, -1, 0, 0);
    due("lay", x.lay(0), 1);
    dueBarges("barge 2 has one, so 0 is the first of two alike", x, 2, 0);
  }

  // A laying goes by who is OPEN then, and leaves the others where they are.
  private static void fillsWhatLay() {
    LightScript x = desk(3, 3);
    write(x, open(6));
    due("lay", x.lay(0), 3);
    dueBarges("lay", x, 0, 0, 0, 1, 1, 1);
    x.place(0, -1);
    x.place(5, -1);
    due("lay again", x.lay(0), 3);
    dueBarges("lay again", x, 0, 0, 0, 1, 1, 1);
    x.place(0, 1);
    x.place(5, -1);
    due("lay again", x.lay(0), 3);
    dueBarges("lay again", x, 1, 0, 0, 1, 1, 0);
  }

  // The first ones may go on the first barge, but a later one can't go elsewhere.
  private static void firstGivesWay() {
    for (int cues = 2; cues <= 8; cues++) {
      // The last, of HEIGHT 80, isn't HELD by barge 1; the others are, and are close to it.
      LightScript x = desk(40, 40);
      x.kind(1, 5, 80, 0, 1010);
      x.cell(7, 18, 2);
      x.apart(0);
      int[] row = new int[4 * cues + 3];
      row[0] = 2;
      row[1] = 1;
      for (int c = 0; c < cues; c++) {
        row[2 + 4 * c] = 1;
        row[3 + 4 * c] = c == cues - 1 ? 1 : 0;
        row[4 + 4 * c] = -1;
      }
      due("write", write(x, row), cues);
      x.apart(1);
      due("lay " + cues + " at once on two", x.lay(0), cues == 2 ? 1 : -3);
      dueBarges("at once on two", x, cues == 2 ? 1 : -1, cues == 2 ? 0 : -1);
      x.apart(0);
      for (int c = 0; c < cues; c++) {
        x.place(c, -1);
      }
      // Barge 0 with one channel: all the others go on barge 1.
      x.barge(0, 2, 16, 1);
      due("lay " + cues + ", one channel", x.lay(0), cues - 1);
      for (int c = 0; c < cues; c++) {
        due("barge of " + c, x.cue(c, 2), c == cues - 1 ? 0 : 1);
      }
    }
    // By the least greatest: 0 and 1 may go anywhere, 2 and 3 on barge 0 alone.
    LightScript x = desk(40, 40);
    x.kind(1, 5, 80, 0, 1010);
    x.cell(7, 18, 2);
    write(x, 2, 1, 1, 0, -1, 0, 2, 1, 1, 0, -1, 0, 2, 1, 1, 1, -1, 0, 2, 1, 1, 1, -1, 0, 0);
    due("lay", x.lay(4), 2);
    dueBarges("lay", x, 1, 1, 0, 0);
  }

  // Of eight each pair that is too close is seen: b, of a longer LIFT, FIRES as a does.
  private static void eachPairOfEight() {
    for (int a = 0; a < 8; a++) {
      for (int b = a + 1; b < 8; b++) {
        LightScript x = desk(40, 0);
        x.kind(1, 5 + 7 * (b - a), 50, 0, 1010);
        int[] eight = open(8);
        eight[6 * b + 3] = 1;
        int[] row = new int[eight.length + 4];
        row[0] = 8;
        row[1] = 7;
        row[2] = 2;
        row[3] = 7;
        System.arraycopy(eight, 0, row, 4, eight.length);
        String name = a + " and " + b + " alike";
        due("write, " + name, write(x, row), 8);
        due("FIRES, " + name, x.cue(a, 4), x.cue(b, 4));
        due("lay on one, " + name, x.lay(0), -3);
        int[] barges = new int[8];
        due("proof on one, " + name, proof(x, 0, barges), -100 - b);
        x.barge(1, 7, 16, 1);
        barges[a] = 1;
        due("proof on two, " + name, proof(x, 0, barges), 7);
        due("lay on two, " + name, x.lay(0), 7);
        for (int c = 0; c < 8; c++) {
          due("barge of " + c + ", " + name, x.cue(c, 2), c == b ? 1 : 0);
        }
      }
    }
  }

  private static void fixedOnEachBarge() {
    for (int s = 0; s < 6; s++) {
      LightScript x = desk(3, 3, 3, 3, 3, 3);
      write(x, open(5));
      for (int c = 0; c < 3; c++) {
        x.place(c, s);
      }
      due("OPEN ones", x.count(3), 2);
      for (int t = 0; t < 6; t++) {
        due("proof beside three on " + s, proof(x, 4, t, t), t == s ? -100 : 3);
      }
      due("lay beside three on " + s, x.lay(4), 3);
      dueBarges("beside three on " + s, x, s, s, s, s == 0 ? 1 : 0, s == 0 ? 1 : 0);
      // The fixed ones are close to one that is OPEN.
      write(x, 2, 1, 3, 0, s, 2, 1, 0, -1, 0, 0);
      for (int t = 0; t < 6; t++) {
        due("proof close to " + s, proof(x, 4, t), t == s ? -100 : 2);
      }
      due("lay close to " + s, x.lay(4), 2);
      dueBarges("close to " + s, x, s, s, s == 0 ? 1 : 0);
    }
  }

  private static void hundredTwentyOnOne() {
    for (int s = 0; s < 6; s += 5) {
      LightScript x = desk(1, 1, 1, 1, 1, 1);
      due("write", write(x, 2, 1, 6, 8, 6, 5, 3, 0, s, 3, 7, 7, 0), 120);
      due("lay none of 120", x.lay(4), 120);
      due("proof of none of 120", proof(x, 4), 120);
      x.place(60, -1);
      x.apart(0);
      due("proof of one of 120", proof(x, 4, 1), 119);
      due("proof of one of 120", proof(x, 4, s), -100);
      due("lay one of 120", x.lay(4), 119);
      due("its barge", x.cue(60, 2), s == 0 ? 1 : 0);
    }
  }

  // "the OPEN CUES get its BARGES": nothing else is changed, by proof nothing at all.
  private static void laysBargesAlone() {
    LightScript x = desk(3, 3);
    write(x, open(5));
    x.place(2, 1);
    for (int c = 0; c < 5; c++) {
      x.fault(c, c + 2);
    }
    x.halt(777);
    x.meter(1, 5, 5);
    x.apart(1);
    row(x, 2, 1, 9, 0);
    x.hold(2);
    x.seen(9, 9);
    for (int turn = 0; turn < 2; turn++) {
      due("proof or lay", turn == 0 ? proof(x, 4, 0, 0, 1, 1) : x.lay(4), 3);
      dueBarges("then", x, turn - 1, turn - 1, 1, turn - 1, turn == 0 ? -1 : 1);
      for (int c = 0; c < 5; c++) {
        due("fault " + c, x.fault(c, c + 2), c + 2);
        due("burst " + c, x.cue(c, 0), 10 + 10 * c);
        due("kind " + c, x.cue(c, 1), 0);
        due("angle " + c, x.cue(c, 3), 0);
      }
      due("halt", x.halt(777), 777);
      due("apart", x.apart(1), 1);
      int[] want = {1, 2, 5, turn == 0 ? 4 : 0, 1, 1, 1, 0};
      for (int what = 0; what <= 7; what++) {
        due("count(" + what + ")", x.count(what), want[what]);
      }
    }
  }

  // "NONE: no such TAPE", "NOTHING; CAST"
  private static void proofTapes() {
    LightScript x = desk(9);
    for (int d : new int[] {-1, 6, MIN, MAX}) {
      due("proof(" + d + ")", x.proof(d, 0), -1);
    }
    for (int d = 0; d < 6; d++) {
      due("proof of nothing", x.proof(d, 0), -11);
      for (int sort = 1; sort <= 4; sort++) {
        x.tape(d, sort, 0);
        due("proof of sort " + sort, x.proof(d, 0), sort == 1 ? 0 : -12);
      }
      x.keep(d);
      due("proof of a SHOW", x.proof(d, 0), -12);
    }
  }

  private static void proofOpenOnes() {
    LightScript x = desk(40, 40);
    write(x, open(8));
    due("proof of eight", proof(x, 4, 0, 1, 0, 1, 0, 1, 0, 1), 4);
    due("proof of eight, a longer row", proof(x, 4, 0, 1, 0, 1, 0, 1, 0, 1, 99), 4);
    due("proof, the eighth is none", proof(x, 4, 0, 1, 0, 1, 0, 1, 0, 2), -107);
    due("proof, the first is none", proof(x, 4, 2, 1, 0, 1, 0, 1, 0, 1), -100);
  }

  // "PLACE: the row has too few (and all that it has are well)"
  private static void proofTooFew() {
    LightScript x = desk(40, 40);
    write(x, open(3));
    due("proof of none", proof(x, 4), -13);
    due("proof of one", proof(x, 4, 1), -13);
    due("proof of two", proof(x, 4, 1, 0), -13);
    due("proof of three", proof(x, 4, 1, 0, 0), 2);
    due("proof of four", proof(x, 4, 1, 0, 0, -1), 2);
    due("proof of two, the first is none", proof(x, 4, 6, 0), -100);
    due("proof of two, the last is none", proof(x, 4, 0, 6), -101);
    x.barge(0, 2, 16, 1);
    due("proof of two, the last breaks it", proof(x, 4, 0, 0), -101);
    due("count(7)", x.count(7), 3);
  }

  // "or one isn't a BARGE"
  private static void proofNoBarge() {
    LightScript x = desk(40, 0, 40, 0, 0, 40);
    write(x, open(2));
    for (int s : new int[] {-128, -1, 1, 3, 4, 6, 100, 127}) {
      due("proof " + s + " first", proof(x, 4, s, 0), -100);
      due("proof " + s + " second", proof(x, 4, 0, s), -101);
      due("proof " + s + " behind", proof(x, 4, 0, 2, s), 1);
    }
    for (int s : new int[] {0, 2, 5}) {
      due("proof " + s, proof(x, 4, s, s), 2);
    }
  }

  // "the first i at which the first i + 1 of them (alone, with the CUES that aren't OPEN) break it"
  private static void proofFirstThatBreaks() {
    LightScript x = desk(3, 40);
    write(x, open(6));
    for (int full = 0; full < 6; full++) {
      // The fourth on barge 0 breaks it; one goes on barge 1.
      int[] row = new int[6];
      row[full] = 1;
      due("proof, the " + full + " on barge 1", proof(x, 0, row), full < 4 ? -104 : -103);
    }
    x.place(5, 0);
    due("the fixed one is behind", proof(x, 0, 0, 0, 0, 1, 1), -102);
    due("the fixed one is behind", proof(x, 0, 0, 0, 1, 1, 1), 3);
    x.place(0, 0);
    x.place(1, 0);
    due("full of fixed ones", proof(x, 0, 1, 1, 0), -102);
    due("full of fixed ones", proof(x, 0, 0, 1, 0), -100);
    due("full of fixed ones", proof(x, 0, 1, 1, 1), 3);
  }

  private static void proofChannels() {
    for (int channels = 1; channels <= 8; channels++) {
      LightScript x = desk(channels);
      write(x, open(8));
      due("proof of eight on " + channels, proof(x, 0, 0, 0, 0, 0, 0, 0, 0, 0),
          channels == 8 ? 8 : -100 - channels);
    }
  }

  private static void proofGap() {
    LightScript x = desk(40, 40);
    // FIRES 5, 6, 7, 8.
    write(x, 2, 1, 1, 0, -1, 0, 8, 1, 6, 3, 2, 1, 1, 0, -1, 0, 7, 0);
    due("1 apart", proof(x, 0, 0, 0, 0, 0), -101);
    due("2 apart", proof(x, 0, 0, 1, 0, 1), 2);
    due("2 apart, but the last", proof(x, 0, 0, 1, 0, 0), -103);
    due("2 apart, but the last", proof(x, 0, 0, 1, 1, 0), -102);
    x.apart(3);
    due("3 apart", proof(x, 0, 0, 1, 1, 0), -102);
    due("3 apart", proof(x, 0, 0, 1, 0, 1), -102);
    x.apart(1);
    due("1 apart", proof(x, 0, 0, 0, 0, 0), 4);
    x.apart(0);
    due("0 apart", proof(x, 0, 1, 1, 1, 1), 4);
  }

  // "the greatest number of CUES on a BARGE if it is a LAYING"
  private static void proofGreatest() {
    LightScript x = desk(40, 40, 40);
    write(x, open(7));
    x.place(0, 2);
    x.place(1, 2);
    due("the fixed ones count", proof(x, 4, 0, 1, 0, 1, 2), 3);
    due("the fixed ones are the most", proof(x, 4, 0, 0, 1, 1, 1), 3);
    due("five on one", proof(x, 4, 0, 0, 0, 0, 0), 5);
    due("seven on one", proof(x, 4, 2, 2, 2, 2, 2), 7);
    x.place(2, 2);
    x.place(3, 2);
    due("the fixed ones are the most", proof(x, 4, 0, 0, 1), 4);
    dueBarges("proof lays none", x, 2, 2, 2, 2, -1, -1, -1);
  }
}
