import java.util.ArrayList;
import java.util.Arrays;
import java.util.List;
import java.util.Random;

/**
 * Random runs of calls, each answer against a model that does everything the long way: embers step
 * by step, layings one after another, matchings by augmenting paths, rows by recursion.
 */
public final class OracleTest {
  private static int wrong = 0;

  public static void main(String[] args) {
    int runs = args.length > 0 ? Integer.parseInt(args[0]) : 1800;
    for (int seed = 0; seed < runs && wrong < 10; seed++) {
      new Run(seed).go();
    }
    System.out.println(wrong == 0 ? "all answers are as due" : wrong + " answers are not as due");
    if (wrong != 0) {
      System.exit(1);
    }
  }

  // What is thrown is told by these.
  private static final long IAE = Long.MIN_VALUE + 3;
  private static final long ISE = Long.MIN_VALUE + 4;

  /** A fault of a row, an answer that isn't one of the plain ones. */
  private static final class Refused extends RuntimeException {
    final long answer;

    Refused(long answer) {
      super(null, null, false, false);
      this.answer = answer;
    }
  }

  private static final class Cue {
    int burst;
    int kind;
    int barge;
    int angle;
    int fault;

    Cue(int burst, int kind, int barge, int angle) {
      this.burst = burst;
      this.kind = kind;
      this.barge = barge;
      this.angle = angle;
    }
  }

  private static final class Model {
    int[][] ground = new int[32][32];
    int[][] kinds = new int[12][];
    int[][] barges = new int[6][];
    int[][][] winds = new int[4][5][2];
    int gap = 2;
    List<Cue> cues = new ArrayList<>();
    List<int[]> readings = new ArrayList<>();
    List<int[]> rules = new ArrayList<>();
    List<int[]> seen = new ArrayList<>();
    int halt = -1;
    int refusals;
    Object[] tapes = new Object[6];

    void begin() {
      ground = new int[32][32];
      kinds = new int[12][];
      barges = new int[6][];
      winds = new int[4][5][2];
      gap = 2;
      cues = new ArrayList<>();
      readings.clear();
      rules.clear();
      seen.clear();
      halt = -1;
      refusals = 0;
    }

    static boolean in(int v, int from, int to) {
      return from <= v && v <= to;
    }

    static void need(boolean fine, long answer) {
      if (!fine) {
        throw new Refused(answer);
      }
    }

    boolean isKind(int k) {
      return in(k, 0, 11) && kinds[k] != null;
    }

    boolean isBarge(int s) {
      return in(s, 0, 5) && barges[s] != null;
    }

    int fire(Cue c) {
      return c.burst - kinds[c.kind][0];
    }

    // kind: 0 lift, 1 height, 2 spread, 3 burn, 4 colour, 5 late
    boolean may(int s, int k) {
      int reach = 5 * kinds[k][1];
      for (int x = 0; x < 32; x++) {
        for (int y = 0; y < 32; y++) {
          boolean near = Math.abs(200 * (x - barges[s][0])) <= reach
              && Math.abs(200 * (y - barges[s][1])) <= reach;
          if (ground[x][y] == 2 && near) {
            return false;
          }
        }
      }
      return true;
    }

    /** x and y of the place, or null if it is cold. */
    int[] ember(int k, int s, int angle, int w, int i, int z) {
      int[] kind = kinds[k];
      int x = 200 * barges[s][0] + 100 + angle * kind[1];
      int y = 200 * barges[s][1] + 100;
      int[][] sides = {{0, 0}, {1, 0}, {-1, 0}, {0, 1}, {0, -1}};
      x += sides[i][0] * kind[2] * 10;
      y += sides[i][1] * kind[2] * 10;
      for (int t = 0; t < kind[3]; t++) {
        int[] drift = winds[w][Math.min(4, z / 500)];
        x += drift[0];
        y += drift[1];
        z -= 25;
        if (z <= 0) {
          return new int[] {(int) Math.floor(x / 200.0), (int) Math.floor(y / 200.0)};
        }
      }
      return null;
    }

    boolean safe(int k, int s, int angle, int w) {
      for (int i = 0; i < 5; i++) {
        int[] at = ember(k, s, angle, w, i, 10 * kinds[k][1]);
        if (at != null && (!in(at[0], 0, 31) || !in(at[1], 0, 31) || ground[at[0]][at[1]] != 0)) {
          return false;
        }
        at = ember(k, s, angle, w, i, 5 * kinds[k][1]);
        if (at != null && in(at[0], 0, 31) && in(at[1], 0, 31) && ground[at[0]][at[1]] == 2) {
          return false;
        }
      }
      return true;
    }

    // The small language, by recursion: the state is now, beat, place.
    int now;
    int beat;
    byte[] row;
    List<Cue> draft;

    int number(int place, int i) {
      need(place + i < row.length, -100 - place);
      return row[place + i];
    }

    void make(int place, int burst, int k, int s, int angle) {
      need(isKind(k) && (s == -1 || isBarge(s)), -100 - place);
      need(burst - kinds[k][0] >= 0 && burst <= 20000 && draft.size() < 120, -100 - place);
      draft.add(new Cue(burst, k, s, angle));
    }

    /** Follows from a place to the 0 or 7 that ends it: the place behind that. */
    int follow(int place, int depth) {
      while (true) {
        need(place < row.length, -100 - row.length);
        int fault = -100 - place;
        int order = row[place];
        need(in(order, 0, 8), fault);
        if (order == 0 || order == 7) {
          need((order == 0) == (depth == 0), fault);
          return place + 1;
        }
        int a = number(place, 1);
        if (order == 2) {
          need(in(a, 1, 50), fault);
          now += a * beat;
          place += 2;
        } else if (order == 8) {
          need(in(a, 1, 50), fault);
          beat = a;
          place += 2;
        } else if (order == 6) {
          need(in(a, 2, 9) && depth < 3, fault);
          int behind = place;
          for (int time = 0; time < a; time++) {
            behind = follow(place + 2, depth + 1);
          }
          place = behind;
        } else {
          place = makeBy(place, order);
        }
      }
    }

    int makeBy(int place, int order) {
      int fault = -100 - place;
      int k = number(place, 1);
      int s = number(place, 2);
      int third = number(place, 3);
      if (order == 1) {
        need(in(third, -4, 4), fault);
        make(place, now, k, s, third);
        return place + 4;
      }
      if (order == 3) {
        need(in(third, 1, 5), fault);
        int[][] fans = {{0}, {-1, 1}, {-2, 0, 2}, {-3, -1, 1, 3}, {-4, -2, 0, 2, 4}};
        for (int angle : fans[third - 1]) {
          make(place, now, k, s, angle);
        }
        return place + 4;
      }
      int g = number(place, 4);
      need(in(g, 0, 50) && s != -1 && third != -1 && isBarge(s) && isBarge(third), fault);
      if (order == 5) {
        make(place, now, k, s, 0);
        make(place, now + g * beat, k, third, 0);
        return place + 5;
      }
      int at = now;
      for (int b = s; ; b += b < third ? 1 : -1) {
        make(place, at, k, b, 0);
        at += g * beat;
        if (b == third) {
          return place + 5;
        }
      }
    }

    byte[] bytes(int d) {
      return (byte[]) rowOf(d, byte[].class);
    }

    Object rowOf(int d, Class<?> wanted) {
      need(in(d, 0, 5), -1);
      need(tapes[d] != null, -11);
      need(tapes[d].getClass() == wanted, -12);
      return tapes[d];
    }

    long write(int d) {
      row = bytes(d);
      draft = new ArrayList<>();
      now = 0;
      beat = 10;
      follow(0, 0);
      cues = draft;
      seen.clear();
      return cues.size();
    }

    long stretch(int f, int p, int q) {
      need(in(f, 0, 20000) && in(p, 1, 100) && in(q, 1, 100), -1);
      int[] then = new int[cues.size()];
      int changed = 0;
      for (int c = 0; c < then.length; c++) {
        int b = cues.get(c).burst;
        then[c] = b < f ? b : f + (int) Math.floor((double) ((b - f) * p) / q + 1e-9);
        changed += then[c] != b ? 1 : 0;
      }
      for (int c = 0; c < then.length; c++) {
        need(then[c] >= kinds[cues.get(c).kind][0], -5);
      }
      for (int burst : then) {
        need(burst <= 20000, -2);
      }
      for (int c = 0; c < then.length; c++) {
        cues.get(c).burst = then[c];
      }
      return changed;
    }

    List<Integer> open() {
      List<Integer> open = new ArrayList<>();
      for (int c = 0; c < cues.size(); c++) {
        if (cues.get(c).barge == -1) {
          open.add(c);
        }
      }
      return open;
    }

    /** Whether the first of the open cues may be laid so, with the cues that aren't open. */
    boolean isLaying(List<Integer> open, int[] to, int n, int winds) {
      int[] barge = new int[cues.size()];
      for (int c = 0; c < barge.length; c++) {
        barge[c] = cues.get(c).barge;
      }
      for (int i = 0; i < n; i++) {
        Cue c = cues.get(open.get(i));
        if (!isBarge(to[i]) || !may(to[i], c.kind)) {
          return false;
        }
        for (int w = 0; w < winds; w++) {
          if (!safe(c.kind, to[i], c.angle, w)) {
            return false;
          }
        }
        barge[open.get(i)] = to[i];
      }
      for (int i = 0; i < n; i++) {
        int number = 0;
        for (int c = 0; c < barge.length; c++) {
          if (barge[c] != to[i]) {
            continue;
          }
          number++;
          if (c != open.get(i)
              && Math.abs(fire(cues.get(c)) - fire(cues.get(open.get(i)))) < gap) {
            return false;
          }
        }
        if (number > barges[to[i]][2]) {
          return false;
        }
      }
      return true;
    }

    int greatest(List<Integer> open, int[] to) {
      int[] number = new int[6];
      for (Cue c : cues) {
        if (c.barge >= 0) {
          number[c.barge]++;
        }
      }
      for (int i = 0; i < open.size(); i++) {
        number[to[i]]++;
      }
      return Arrays.stream(number).max().getAsInt();
    }

    int[] best;
    int bestGreatest;

    void tryAll(List<Integer> open, int[] to, int i, int winds) {
      if (i > 0 && !isLaying(open, to, i, winds)) {
        return;
      }
      if (i == open.size()) {
        int greatest = greatest(open, to);
        if (best == null || greatest < bestGreatest) {
          best = to.clone();
          bestGreatest = greatest;
        }
        return;
      }
      for (int s = 0; s < 6; s++) {
        to[i] = s;
        tryAll(open, to, i + 1, winds);
      }
    }

    long lay(int n) {
      need(in(n, 0, 4), -1);
      List<Integer> open = open();
      need(open.size() <= 8, -4);
      best = null;
      tryAll(open, new int[open.size()], 0, n);
      need(best != null, -3);
      for (int i = 0; i < best.length; i++) {
        cues.get(open.get(i)).barge = best[i];
      }
      return bestGreatest;
    }

    long proof(int d, int n) {
      need(in(d, 0, 5) && in(n, 0, 4), -1);
      List<Integer> open = open();
      need(open.size() <= 8, -4);
      byte[] told = bytes(d);
      int[] to = new int[open.size()];
      for (int i = 0; i < open.size(); i++) {
        need(i < told.length, -13);
        to[i] = told[i];
        need(isLaying(open, to, i + 1, n), -100 - i);
      }
      return greatest(open, to);
    }

    int known(int tick) {
      int[] best = null;
      for (int[] r : readings) {
        if (r[2] <= tick && (best == null || r[1] >= best[1])) {
          best = r;
        }
      }
      return best == null ? 0 : best[0];
    }

    long hold(int d) {
      byte[] told = bytes(d);
      int on = 0;
      int orders = 0;
      int p = 0;
      while (true) {
        need(p < told.length, -100 - told.length);
        int fault = -100 - p;
        int o = told[p];
        need(in(o, 0, 8), fault);
        if (o == 0) {
          need(on == 1, fault);
          break;
        }
        orders++;
        if (o <= 5) {
          need(p + 1 < told.length && told[p + 1] >= 0 && on < 8, fault);
          on++;
          p += 2;
        } else {
          need(on >= (o == 8 ? 1 : 2), fault);
          on -= o == 8 ? 0 : 1;
          p++;
        }
      }
      need(rules.size() < 8 && orders <= 20, -2);
      int[] rule = new int[told.length];
      for (int i = 0; i < rule.length; i++) {
        rule[i] = told[i];
      }
      rules.add(rule);
      return rules.size() - 1;
    }

    boolean holds(int[] rule, Cue c, int misfires) {
      List<Boolean> on = new ArrayList<>();
      for (int p = 0; rule[p] != 0; p++) {
        int o = rule[p];
        if (o <= 5) {
          p++;
          int n = rule[p];
          on.add(o == 1 ? fire(c) >= 10 * n : o == 2 ? misfires >= n : o == 3 ? known(fire(c)) == n
              : o == 4 ? c.barge == n : c.kind == n);
        } else {
          boolean last = on.remove(on.size() - 1);
          if (o == 8) {
            on.add(!last);
          } else {
            boolean other = on.remove(on.size() - 1);
            on.add(o == 6 ? last && other : last || other);
          }
        }
      }
      return on.get(0);
    }

    List<Integer> order;
    int[] fates;
    int[] has;

    void show() {
      order = new ArrayList<>();
      for (int c = 0; c < cues.size(); c++) {
        order.add(c);
      }
      order.sort((a, b) -> Integer.compare(fire(cues.get(a)), fire(cues.get(b))));
      fates = new int[cues.size()];
      has = new int[cues.size()];
      for (int c : order) {
        Cue cue = cues.get(c);
        has[c] = cue.kind;
        if (cue.barge == -1) {
          fates[c] = 6;
          continue;
        }
        if (halt != -1 && fire(cue) >= halt) {
          fates[c] = 4;
          continue;
        }
        int misfires = 0;
        for (int other = 0; other < cues.size(); other++) {
          if (fates[other] == 5 && cues.get(other).burst <= fire(cue)) {
            misfires++;
          }
        }
        boolean held = false;
        for (int[] rule : rules) {
          held |= holds(rule, cue, misfires);
        }
        if (held) {
          fates[c] = 3;
          continue;
        }
        int wind = known(fire(cue));
        boolean fine = safe(cue.kind, cue.barge, cue.angle, wind);
        if (!fine) {
          has[c] = -1;
          for (int k = 11; k >= 0; k--) {
            if (isKind(k) && kinds[k][4] == kinds[cue.kind][4]
                && kinds[k][0] <= kinds[cue.kind][0] && may(cue.barge, k)
                && safe(k, cue.barge, cue.angle, wind)) {
              has[c] = k;
            }
          }
          if (has[c] == -1) {
            fates[c] = 2;
            continue;
          }
        }
        fates[c] = cue.fault == 6 ? 5 : fine ? 0 : 1;
      }
    }

    boolean expected(int c) {
      return fates[c] == 0 || fates[c] == 1 || fates[c] == 5;
    }

    boolean maybe(int c, int j) {
      return expected(c) && kinds[has[c]][4] == seen.get(j)[1]
          && Math.abs(cues.get(c).burst - seen.get(j)[0]) <= kinds[has[c]][5];
    }

    int matching(int withoutCue, int withoutSeen) {
      int[] of = new int[seen.size()];
      Arrays.fill(of, -1);
      int number = 0;
      for (int c = 0; c < cues.size(); c++) {
        if (c != withoutCue && augment(c, of, new boolean[seen.size()], withoutSeen)) {
          number++;
        }
      }
      return number;
    }

    boolean augment(int c, int[] of, boolean[] tried, int withoutSeen) {
      for (int j = 0; j < of.length; j++) {
        if (j != withoutSeen && !tried[j] && maybe(c, j)) {
          tried[j] = true;
          if (of[j] == -1 || augment(of[j], of, tried, withoutSeen)) {
            of[j] = c;
            return true;
          }
        }
      }
      return false;
    }

    long dud(int c) {
      need(in(c, 0, cues.size() - 1), -1);
      show();
      need(expected(c), -2);
      int greatest = matching(-1, -1);
      boolean someHasNot = matching(c, -1) == greatest;
      boolean someHas = false;
      for (int j = 0; j < seen.size() && !someHas; j++) {
        someHas = maybe(c, j) && matching(c, j) + 1 == greatest;
      }
      return !someHas ? 2 : someHasNot ? 1 : 0;
    }

    int expectedOnes() {
      int number = 0;
      for (int c = 0; c < cues.size(); c++) {
        number += expected(c) ? 1 : 0;
      }
      return number;
    }

    static List<Cue> copies(List<Cue> of) {
      List<Cue> copies = new ArrayList<>();
      for (Cue c : of) {
        copies.add(new Cue(c.burst, c.kind, c.barge, c.angle));
      }
      return copies;
    }

    @SuppressWarnings("unchecked")
    List<Cue> show(int d) {
      return (List<Cue>) rowOf(d, ArrayList.class);
    }

    static int length(Object row) {
      return row instanceof List ? -1 : java.lang.reflect.Array.getLength(row);
    }

    long back(int d) {
      List<Cue> kept = show(d);
      for (Cue c : kept) {
        need(isKind(c.kind) && (c.barge == -1 || isBarge(c.barge)), -3);
      }
      for (Cue c : kept) {
        need(fire(c) >= 0, -5);
      }
      cues = copies(kept);
      seen.clear();
      return cues.size();
    }

    long put(int d, int i, long v) {
      need(in(d, 0, 5), -1);
      need(tapes[d] != null, -11);
      need(length(tapes[d]) >= 0, -12);
      need(i >= 0 && i < length(tapes[d]), -13);
      Object row = tapes[d];
      if (row instanceof byte[]) {
        ((byte[]) row)[i] = (byte) v;
      } else if (row instanceof short[]) {
        ((short[]) row)[i] = (short) v;
      } else if (row instanceof int[]) {
        ((int[]) row)[i] = (int) v;
      } else {
        ((long[]) row)[i] = v;
      }
      return 1;
    }

    long copy(int d, int i, int e, int j, int n) {
      need(in(d, 0, 5) && in(e, 0, 5), -1);
      need(tapes[d] != null && tapes[e] != null, -11);
      need(length(tapes[d]) >= 0 && tapes[d].getClass() == tapes[e].getClass(), -12);
      try {
        System.arraycopy(tapes[d], i, tapes[e], j, n);
      } catch (ArrayIndexOutOfBoundsException x) {
        throw new Refused(-13);
      }
      return n;
    }

    int sort(Object tape) {
      return tape == null ? 0 : tape instanceof byte[] ? 1 : tape instanceof short[] ? 2
          : tape instanceof int[] ? 3 : tape instanceof long[] ? 4 : 5;
    }
  }

  /** One run: what is called, on the class and on the model. */
  private static final class Run {
    final Random dice;
    final LightScript x = new LightScript();
    final Model m = new Model();
    final List<String> told = new ArrayList<>();
    final int seed;

    Run(int seed) {
      this.seed = seed;
      this.dice = new Random(seed);
    }

    int any(int from, int to) {
      return from + dice.nextInt(to - from + 1);
    }

    /** Mostly from .. to, now and then just beyond. */
    int near(int from, int to) {
      return dice.nextInt(40) == 0 ? (dice.nextBoolean() ? from - 1 : to + 1) : any(from, to);
    }

    void go() {
      setUp();
      // A step makes some hundred calls at most, an object is used for 512.
      while (told.size() < 400 && wrong < 10) {
        step();
      }
    }

    void setUp() {
      int kinds = any(1, 6);
      for (int i = 0; i < kinds; i++) {
        kind(any(0, 11));
      }
      int barges = any(1, 6);
      for (int i = 0; i < barges; i++) {
        barge(any(0, 5));
      }
      int grounds = any(0, 25);
      for (int i = 0; i < grounds; i++) {
        cell();
      }
      int winds = any(0, 8);
      for (int i = 0; i < winds; i++) {
        wind();
      }
      writeRow();
    }

    void step() {
      int what = dice.nextInt(100);
      if (what < 3) {
        kind(any(0, 11));
      } else if (what < 5) {
        barge(any(0, 5));
      } else if (what < 9) {
        cell();
      } else if (what < 12) {
        wind();
      } else if (what < 15) {
        writeRow();
      } else if (what < 19) {
        holdRow();
      } else if (what < 40) {
        askTheShow();
      } else if (what < 55) {
        watch();
      } else if (what < 70) {
        cuesAndLaying();
      } else if (what < 80) {
        askTheSite();
      } else {
        tapes();
      }
    }

    void check(String call, long got, long want) {
      told.add(call + " = " + got);
      if (got != want) {
        wrong++;
        System.out.println("seed " + seed + ": " + call + " answered " + got + ", due is " + want);
        if (wrong == 1) {
          System.out.println("  after " + String.join("; ", told));
        }
      }
    }

    interface Call {
      long answer();
    }

    /** The model's answer; the host's refusals are counted. */
    long model(Call call) {
      try {
        return call.answer();
      } catch (Refused r) {
        if (r.answer <= -11 && r.answer >= -15) {
          m.refusals++;
        }
        return r.answer;
      }
    }

    void both(String call, Call real, Call model) {
      long got;
      try {
        got = real.answer();
      } catch (IllegalArgumentException e) {
        got = IAE;
      } catch (IllegalStateException e) {
        got = ISE;
      }
      check(call, got, model(model));
    }

    void kind(int k) {
      int lift = near(1, any(1, 12) == 1 ? 60 : 12);
      int height = near(10, any(1, 2) == 1 ? 60 : 300);
      int spread = near(0, 60);
      int burn = near(1, 99);
      int rest = 1000 * burn + 10 * near(1, 3) + near(0, 5);
      if (any(1, 60) == 1) {
        rest = dice.nextInt();
      }
      int r = rest;
      both("kind(" + k + ", " + lift + ", " + height + ", " + spread + ", " + r + ")",
          () -> x.kind(k, lift, height, spread, r), () -> {
            int colour = r / 10 % 100;
            Model.need(Model.in(lift, 1, 60) && Model.in(height, 10, 300)
                && Model.in(spread, 0, 60), -1);
            Model.need(r > 0 && Model.in(r / 1000, 1, 99) && Model.in(colour, 1, 9)
                && Model.in(r % 10, 0, 5), -1);
            for (Cue c : m.cues) {
              Model.need(c.kind != k || c.burst >= lift, -5);
            }
            m.kinds[k] = new int[] {lift, height, spread, r / 1000, colour, r % 10};
            return k;
          });
    }

    void barge(int s) {
      int bx = near(0, 31);
      int by = near(0, 31);
      int channels = near(1, any(1, 2) == 1 ? 4 : 40);
      both("barge(" + s + ", " + bx + ", " + by + ", " + channels + ")",
          () -> x.barge(s, bx, by, channels), () -> {
            Model.need(Model.in(bx, 0, 31) && Model.in(by, 0, 31) && Model.in(channels, 1, 40), -1);
            m.barges[s] = new int[] {bx, by, channels};
            return s;
          });
    }

    void cell() {
      int cx = near(0, 31);
      int cy = near(0, 31);
      int what = near(0, 2);
      if (any(1, 2) == 1 && m.isBarge(any(0, 5))) {
        for (int[] b : m.barges) {
          if (b != null) {
            cx = b[0] + any(-2, 2);
            cy = b[1] + any(-2, 2);
            break;
          }
        }
      }
      int fx = cx;
      int fy = cy;
      both("cell(" + fx + ", " + fy + ", " + what + ")", () -> x.cell(fx, fy, what), () -> {
        Model.need(Model.in(fx, 0, 31) && Model.in(fy, 0, 31) && Model.in(what, 0, 2), -1);
        int was = m.ground[fx][fy];
        m.ground[fx][fy] = what;
        return was;
      });
    }

    void wind() {
      int w = near(0, 3);
      int layer = near(0, 4);
      int dx = near(-50, 50);
      int dy = near(-50, 50);
      both("wind(" + w + ", " + layer + ", " + dx + ", " + dy + ")",
          () -> x.wind(w, layer, dx, dy), () -> {
            Model.need(Model.in(w, 0, 3) && Model.in(layer, 0, 4) && Model.in(dx, -50, 50)
                && Model.in(dy, -50, 50), -1);
            m.winds[w][layer] = new int[] {dx, dy};
            return 0;
          });
    }

    void tapeRow(int d, List<Integer> row) {
      int n = row.size();
      both("tape(" + d + ", 1, " + n + ")", () -> x.tape(d, 1, n), () -> {
        m.tapes[d] = new byte[n];
        return n;
      });
      for (int i = 0; i < n; i++) {
        int at = i;
        if (row.get(i) != 0) {
          both("put(" + d + ", " + at + ", " + row.get(at) + ")",
              () -> x.put(d, at, row.get(at)), () -> m.put(d, at, row.get(at)));
        }
      }
    }

    int toldKind() {
      for (int i = 0; i < 20; i++) {
        int k = any(0, 11);
        if (m.isKind(k)) {
          return k;
        }
      }
      return near(0, 11);
    }

    int toldBarge() {
      for (int i = 0; i < 20; i++) {
        int s = any(0, 5);
        if (m.isBarge(s)) {
          return s;
        }
      }
      return near(0, 5);
    }

    int orOpen(int s) {
      return any(1, 4) == 1 ? -1 : s;
    }

    void orders(List<Integer> row, int n, int depth) {
      for (int i = 0; i < n; i++) {
        switch (any(1, 9)) {
          case 1, 2 -> row.addAll(List.of(1, toldKind(), orOpen(toldBarge()), near(-4, 4)));
          case 3, 4 -> row.addAll(List.of(2, near(1, any(1, 5) == 1 ? 50 : 3)));
          case 5 -> row.addAll(List.of(3, toldKind(), orOpen(toldBarge()), near(1, 3)));
          case 6 -> row.addAll(List.of(4, toldKind(), toldBarge(), toldBarge(), near(0, 4)));
          case 7 -> row.addAll(List.of(5, toldKind(), toldBarge(), toldBarge(), near(0, 4)));
          case 8 -> row.addAll(List.of(8, near(1, 20)));
          default -> {
            if (depth < 3 || any(1, 10) == 1) {
              row.addAll(List.of(6, near(2, 4)));
              orders(row, any(0, 3), depth + 1);
              row.add(7);
            }
          }
        }
      }
    }

    void writeRow() {
      List<Integer> row = new ArrayList<>();
      row.addAll(List.of(2, any(1, 6)));
      orders(row, any(0, 8), 0);
      row.add(0);
      if (any(1, 8) == 1) {
        row.set(any(0, row.size() - 1), any(-3, 10));
      }
      if (any(1, 12) == 1) {
        row.remove(row.size() - 1);
      }
      while (row.size() > 60) {
        row.remove(row.size() - 1);
      }
      int d = any(0, 2);
      tapeRow(d, row);
      both("write(" + d + ")", () -> x.write(d), () -> m.write(d));
      check("count(2)", x.count(2), m.cues.size());
    }

    void holdRow() {
      List<Integer> row = new ArrayList<>();
      int on = 0;
      int n = any(1, any(1, 6) == 1 ? 24 : 6);
      for (int i = 0; i < n || on > 1; i++) {
        if (on >= 2 && (i >= n || any(1, 3) == 1)) {
          row.add(any(6, 7));
          on--;
        } else if (on >= 1 && any(1, 4) == 1) {
          row.add(8);
        } else {
          switch (any(1, 5)) {
            case 1 -> row.addAll(List.of(1, near(0, 20)));
            case 2 -> row.addAll(List.of(2, near(0, 3)));
            case 3 -> row.addAll(List.of(3, near(0, 3)));
            case 4 -> row.addAll(List.of(4, toldBarge()));
            default -> row.addAll(List.of(5, toldKind()));
          }
          on++;
        }
      }
      row.add(0);
      if (any(1, 6) == 1) {
        row.set(any(0, row.size() - 1), any(-2, 9));
      }
      int d = any(3, 4);
      tapeRow(d, row);
      both("hold(" + d + ")", () -> x.hold(d), () -> m.hold(d));
      if (any(1, 3) == 1) {
        both("holdless()", () -> x.holdless(), () -> {
          int were = m.rules.size();
          m.rules.clear();
          return were;
        });
      }
    }

    int someCue() {
      return m.cues.isEmpty() || any(1, 30) == 1 ? any(-1, 121) : any(0, m.cues.size() - 1);
    }

    boolean isCue(int c) {
      return Model.in(c, 0, m.cues.size() - 1);
    }

    void askTheShow() {
      int c = someCue();
      switch (any(1, 7)) {
        case 1, 2 -> {
          for (int f = 0; f < 7; f++) {
            int fate = f;
            both("many(" + f + ")", () -> x.many(fate), () -> {
              m.show();
              return Arrays.stream(m.fates).filter(v -> v == fate).count();
            });
          }
        }
        case 3 -> both("fate(" + c + ")", () -> x.fate(c), () -> {
          Model.need(isCue(c), -1);
          m.show();
          return m.fates[c];
        });
        case 4, 5 -> {
          int what = near(0, 2);
          both("goes(" + c + ", " + what + ")", () -> x.goes(c, what), () -> {
            Model.need(isCue(c) && Model.in(what, 0, 2), IAE);
            m.show();
            Model.need(m.fates[c] == 0 || m.fates[c] == 1, ISE);
            Cue cue = m.cues.get(c);
            return what == 0 ? m.has[c] : what == 1 ? cue.burst - m.kinds[m.has[c]][0]
                : cue.burst + cue.fault;
          });
        }
        case 6 -> both("order(" + c + ")", () -> x.order(c), () -> {
          Model.need(isCue(c), -1);
          m.show();
          return m.order.get(c);
        });
        default -> {
          int what = near(0, 4);
          both("cue(" + c + ", " + what + ")", () -> x.cue(c, what), () -> {
            Model.need(Model.in(what, 0, 4), IAE);
            Model.need(isCue(c), ISE);
            Cue cue = m.cues.get(c);
            return new int[] {cue.burst, cue.kind, cue.barge, cue.angle, m.fire(cue)}[what];
          });
        }
      }
    }

    void watch() {
      int c = someCue();
      switch (any(1, 9)) {
        case 1, 2, 3, 4 -> {
          int tick = isCue(c) ? m.cues.get(c).burst + any(-6, 6) : near(0, 20010);
          int colour = isCue(c) && any(1, 5) > 1 ? m.kinds[m.cues.get(c).kind][4] : near(1, 3);
          both("seen(" + tick + ", " + colour + ")", () -> x.seen(tick, colour), () -> {
            Model.need(Model.in(tick, 0, 20010) && Model.in(colour, 1, 9), -1);
            Model.need(m.seen.size() < 60, -2);
            m.seen.add(new int[] {tick, colour});
            return m.seen.size();
          });
        }
        case 5 -> both("duds()", () -> x.duds(), () -> {
          m.show();
          return m.expectedOnes() - m.matching(-1, -1);
        });
        case 6, 7 -> both("dud(" + c + ")", () -> x.dud(c), () -> m.dud(c));
        case 8 -> both("strange()", () -> x.strange(), () -> {
          m.show();
          return m.seen.size() - m.matching(-1, -1);
        });
        default -> {
          if (any(1, 6) == 1) {
            both("unseen()", () -> x.unseen(), () -> {
              int were = m.seen.size();
              m.seen.clear();
              return were;
            });
          }
        }
      }
    }

    void cuesAndLaying() {
      int c = someCue();
      switch (any(1, 11)) {
        case 1 -> {
          int n = near(0, 4);
          both("lay(" + n + ")", () -> x.lay(n), () -> m.lay(n));
          for (int i = 0; i < m.cues.size() && i < 12; i++) {
            check("barge of " + i, x.cue(i, 2), m.cues.get(i).barge);
          }
        }
        case 2, 3 -> {
          List<Integer> row = new ArrayList<>();
          int n = any(0, 8);
          for (int i = 0; i < n; i++) {
            row.add(toldBarge());
          }
          tapeRow(5, row);
          int winds = any(0, 2);
          both("proof(5, " + winds + ")", () -> x.proof(5, winds), () -> m.proof(5, winds));
        }
        case 4, 5, 6 -> {
          int s = orOpen(toldBarge());
          both("place(" + c + ", " + s + ")", () -> x.place(c, s), () -> {
            Model.need(isCue(c) && (s == -1 || m.isBarge(s)), -1);
            int was = m.cues.get(c).barge;
            m.cues.get(c).barge = s;
            return was;
          });
        }
        case 7 -> {
          int f = any(1, 3) == 1 ? near(0, 20000) : any(0, 200);
          int p = near(1, any(1, 9) == 1 ? 100 : 6);
          int q = near(1, any(1, 9) == 1 ? 100 : 6);
          both("stretch(" + f + ", " + p + ", " + q + ")", () -> x.stretch(f, p, q),
              () -> m.stretch(f, p, q));
        }
        case 8 -> {
          int what = near(0, 6);
          both("fault(" + c + ", " + what + ")", () -> x.fault(c, what), () -> {
            Model.need(isCue(c) && Model.in(what, 0, 6), -1);
            int was = m.cues.get(c).fault;
            m.cues.get(c).fault = what;
            return was;
          });
        }
        case 9 -> {
          int tick = any(1, 3) == 1 ? -1 : any(1, 9) == 1 ? near(-1, 20000) : any(0, 400);
          both("halt(" + tick + ")", () -> x.halt(tick), () -> {
            Model.need(Model.in(tick, -1, 20000), -1);
            int was = m.halt;
            m.halt = tick;
            return was;
          });
        }
        case 10 -> {
          int g = near(0, any(1, 3) == 1 ? 20 : 3);
          both("apart(" + g + ")", () -> x.apart(g), () -> {
            Model.need(Model.in(g, 0, 20), -1);
            int was = m.gap;
            m.gap = g;
            return was;
          });
        }
        default -> {
          int w = near(0, 3);
          int from = any(1, 9) == 1 ? near(0, 20000) : any(0, 200);
          int known = from + any(-1, 60);
          both("meter(" + w + ", " + from + ", " + known + ")", () -> x.meter(w, from, known),
              () -> {
                Model.need(Model.in(w, 0, 3) && Model.in(from, 0, 20000)
                    && Model.in(known, from, 20000), -1);
                Model.need(m.readings.size() < 20, -2);
                m.readings.add(new int[] {w, from, known});
                return m.readings.size();
              });
        }
      }
    }

    void askTheSite() {
      int k = any(1, 20) == 1 ? near(0, 11) : toldKind();
      int s = any(1, 20) == 1 ? near(0, 5) : toldBarge();
      int angle = near(-4, 4);
      int w = near(0, 3);
      int i = near(0, 4);
      boolean light = m.isKind(k) && m.isBarge(s) && Model.in(angle, -4, 4) && Model.in(w, 0, 3);
      switch (any(1, 5)) {
        case 1 -> both("may(" + s + ", " + k + ")", () -> x.may(s, k), () -> {
          Model.need(m.isKind(k) && m.isBarge(s), -1);
          return m.may(s, k) ? 1 : 0;
        });
        case 2, 3 -> both("safe(" + k + ", " + s + ", " + angle + ", " + w + ")",
            () -> x.safe(k, s, angle, w), () -> {
              Model.need(light, -1);
              return m.safe(k, s, angle, w) ? 1 : 0;
            });
        case 4 -> both("hot(" + k + ", " + s + ", " + angle + ", " + w + ", " + i + ")",
            () -> x.hot(k, s, angle, w, i), () -> {
              Model.need(light && Model.in(i, 0, 4), -1);
              int[] at = m.ember(k, s, angle, w, i, 10 * m.kinds[k][1]);
              return at == null ? -2 : !Model.in(at[0], 0, 31) || !Model.in(at[1], 0, 31) ? -3
                  : 32 * at[1] + at[0];
            });
        default -> {
          int tick = any(1, 9) == 1 ? near(0, 20000) : any(0, 250);
          both("knows(" + tick + ")", () -> x.knows(tick), () -> {
            Model.need(Model.in(tick, 0, 20000), -1);
            return m.known(tick);
          });
        }
      }
    }

    void tapes() {
      int d = near(0, 5);
      int e = near(0, 5);
      int i = any(-1, 12);
      switch (any(1, 11)) {
        case 1 -> {
          int sort = near(1, 4);
          int n = any(1, 8) == 1 ? any(-2, 102) : any(0, 12);
          both("tape(" + d + ", " + sort + ", " + n + ")", () -> x.tape(d, sort, n), () -> {
            Model.need(Model.in(d, 0, 5) && Model.in(sort, 1, 4) && n <= 100, -1);
            Model.need(n >= 0, -14);
            m.tapes[d] = sort == 1 ? new byte[n] : sort == 2 ? new short[n]
                : sort == 3 ? new int[n] : (Object) new long[n];
            return n;
          });
        }
        case 2 -> both("keep(" + d + ")", () -> x.keep(d), () -> {
          Model.need(Model.in(d, 0, 5), -1);
          m.tapes[d] = Model.copies(m.cues);
          return m.cues.size();
        });
        case 3 -> both("back(" + d + ")", () -> x.back(d), () -> m.back(d));
        case 4 -> both("toss(" + d + ")", () -> x.toss(d), () -> {
          long open = m.show(d).stream().filter(c -> c.barge == -1).count();
          Model.need(open > 0, -15);
          return open;
        });
        case 5 -> {
          if (any(1, 3) == 1) {
            both("clear(" + d + ")", () -> x.clear(d), () -> {
              Model.need(Model.in(d, 0, 5), -1);
              int was = m.sort(m.tapes[d]);
              m.tapes[d] = null;
              return was;
            });
          }
        }
        case 6, 7 -> {
          long v = dice.nextLong() >> any(0, 60);
          both("put(" + d + ", " + i + ", " + v + ")", () -> x.put(d, i, v), () -> m.put(d, i, v));
        }
        case 8 -> both("at(" + d + ", " + i + ")", () -> x.at(d, i), () -> {
          Model.need(Model.in(d, 0, 5), IAE);
          Object row = m.tapes[d];
          Model.need(row != null && i >= 0 && i < Model.length(row), ISE);
          return ((Number) java.lang.reflect.Array.get(row, i)).longValue();
        });
        case 9 -> {
          int j = any(-1, 12);
          int n = any(-1, 12);
          both("copy(" + d + ", " + i + ", " + e + ", " + j + ", " + n + ")",
              () -> x.copy(d, i, e, j, n), () -> m.copy(d, i, e, j, n));
        }
        case 10 -> {
          int what = near(0, 7);
          both("count(" + what + ")", () -> x.count(what), () -> {
            long kinds = Arrays.stream(m.kinds).filter(k -> k != null).count();
            long barges = Arrays.stream(m.barges).filter(b -> b != null).count();
            Model.need(Model.in(what, 0, 7), -1);
            return new long[] {kinds, barges, m.cues.size(), m.open().size(), m.readings.size(),
                m.rules.size(), m.seen.size(), m.refusals}[what];
          });
        }
        default -> {
          if (any(1, 25) == 1) {
            both("begin()", () -> x.begin(), () -> {
              m.begin();
              return 0;
            });
            setUp();
          } else {
            both("write(" + d + ")", () -> x.write(d), () -> m.write(d));
          }
        }
      }
    }
  }
}
