import java.util.Arrays;

/**
 * A desk for a night of lights in the air over water: a show is written in a small language and
 * becomes cues, which are laid to barges, held or replaced by the winds known, and watched for
 * duds.
 *
 * <p>All rows are made once, in the constructors, and used again: no call makes an object but for
 * the exceptions that the document names.
 */
public final class LightScript {
    public static final int NONE = -1, FULL = -2, UNABLE = -3, SPENT = -4, EARLY = -5;
    public static final int NOTHING = -11, CAST = -12, PLACE = -13, SIZE = -14, THROWN = -15;

    private static final int SIDE = 32, CELL = 200;
    private static final int WATER = 0, LAND = 1, CROWD = 2;
    private static final int KINDS = 12, BARGES = 6, WINDS = 4, LAYERS = 5, EMBERS = 5;
    private static final int MOST_LIFT = 60, LEAST_HEIGHT = 10, MOST_HEIGHT = 300, MOST_SPREAD = 60;
    private static final int MOST_BURN = 99, COLOURS = 9, MOST_LATE = 5;
    private static final int MOST_CHANNELS = 40, MOST_ANGLE = 4, MOST_DRIFT = 50;
    private static final int LAYER_DEPTH = 500, FALL = 25;
    private static final int WHOLE = 0, HALF = 1, PARTS = 2;
    private static final int COLD = -2, BEYOND = -3;
    private static final int CUES = 120, OPEN = -1, LAST_TICK = 20000, FIRST_BEAT = 10;
    private static final int FIRST_GAP = 2, MOST_GAP = 20, MOST_OPEN = 8, MOST_STRETCH = 100;
    private static final int READINGS = 20, RULES = 8, RULE_ORDERS = 20, STACK = 8;
    private static final int DUD = 6, NO_HALT = -1;
    private static final int FIRED = 0, REPLACED = 1, BY_WIND = 2, BY_RULE = 3, HALTED = 4;
    private static final int MISFIRED = 5, LEFT_OPEN = 6;
    private static final int BURSTS_SEEN = 60, LAST_SEEN_TICK = 20010;
    private static final int NOT = 0, MAYBE = 1, SURELY = 2, NO_DUD_ASKED = -2;
    private static final int TAPES = 6, ROW = 100;
    private static final int EMPTY = 0, BYTES = 1, SHORTS = 2, INTS = 3, LONGS = 4, SHOW = 5;
    private static final int FAULT_BASE = -100;

    private final Site site;
    private final Cues cues;
    private final Scribe scribe;
    private final Laying laying;
    private final Meters meters;
    private final Rules rules;
    private final Show show;
    private final Watch watch;
    private final Tape[] tapes;
    private int gap;
    private int refusals;

    public LightScript() {
        site = new Site();
        cues = new Cues();
        scribe = new Scribe(site);
        laying = new Laying(site, cues);
        meters = new Meters();
        rules = new Rules();
        show = new Show(site, cues, meters, rules);
        watch = new Watch(site, cues, show);
        tapes = new Tape[TAPES];
        for (int d = 0; d < TAPES; d++) {
            tapes[d] = new Tape();
        }
        gap = FIRST_GAP;
        refusals = 0;
    }

    public int begin() {
        site.forget();
        cues.size = 0;
        meters.size = 0;
        rules.size = 0;
        show.forget();
        watch.size = 0;
        gap = FIRST_GAP;
        refusals = 0;
        return 0;
    }

    // The field, the kinds, the barges and the winds.

    public int cell(int x, int y, int what) {
        if (x < 0 || x >= SIDE || y < 0 || y >= SIDE || what < WATER || what > CROWD) {
            return NONE;
        }
        int was = site.groundOf(x, y);
        site.setGround(x, y, what);
        return was;
    }

    public int kind(int k, int lift, int height, int spread, int rest) {
        if (k < 0 || k >= KINDS || !Kinds.isAsSaid(lift, height, spread, rest)) {
            return NONE;
        }
        if (cues.firstBurstOfKind(k) < lift) {
            return EARLY;
        }
        site.kinds.tell(k, lift, height, spread, rest);
        site.air.reckonKind(site.kinds, k);
        return k;
    }

    public int barge(int s, int x, int y, int channels) {
        if (s < 0 || s >= BARGES || x < 0 || x >= SIDE || y < 0 || y >= SIDE) {
            return NONE;
        }
        if (channels < 1 || channels > MOST_CHANNELS) {
            return NONE;
        }
        site.tellBarge(s, x, y, channels);
        return s;
    }

    public int wind(int w, int layer, int dx, int dy) {
        if (w < 0 || w >= WINDS || layer < 0 || layer >= LAYERS || !isDrift(dx) || !isDrift(dy)) {
            return NONE;
        }
        site.air.setDrift(w, layer, dx, dy);
        site.air.reckonWind(site.kinds, w);
        return 0;
    }

    public int apart(int g) {
        if (g < 0 || g > MOST_GAP) {
            return NONE;
        }
        int was = gap;
        gap = g;
        return was;
    }

    public int may(int s, int k) {
        if (!site.isBarge(s) || !site.kinds.isTold(k)) {
            return NONE;
        }
        return site.holds(s, k) ? 1 : 0;
    }

    public int safe(int k, int s, int angle, int w) {
        if (!isLight(k, s, angle, w)) {
            return NONE;
        }
        return site.isSafe(k, s, angle, w) ? 1 : 0;
    }

    public int hot(int k, int s, int angle, int w, int i) {
        if (!isLight(k, s, angle, w) || i < 0 || i >= EMBERS) {
            return NONE;
        }
        return site.landing(k, s, angle, site.air.slot(k, w, WHOLE), i);
    }

    // The cues.

    public int write(int d) {
        Tape tape = tapeAt(d);
        if (tape == null) {
            return NONE;
        }
        int wrong = tape.refusalAs(BYTES);
        if (wrong != 0) {
            return refuse(wrong);
        }
        int fault = scribe.firstFault(tape);
        if (fault >= 0) {
            return FAULT_BASE - fault;
        }
        takeCues(scribe.draft);
        return cues.size;
    }

    public int cue(int c, int what) throws IllegalArgumentException, IllegalStateException {
        if (what < 0 || what > 4) {
            throw new IllegalArgumentException("no such what");
        }
        if (!cues.isCue(c)) {
            throw new IllegalStateException("no such CUE");
        }
        switch (what) {
            case 0:
                return cues.burstOf(c);
            case 1:
                return cues.kindOf(c);
            case 2:
                return cues.bargeOf(c);
            case 3:
                return cues.angleOf(c);
            default:
                return site.fireOf(cues, c);
        }
    }

    public int stretch(int f, int p, int q) {
        if (f < 0 || f > LAST_TICK || p < 1 || p > MOST_STRETCH || q < 1 || q > MOST_STRETCH) {
            return NONE;
        }
        boolean late = false;
        for (int c = 0; c < cues.size; c++) {
            int burst = stretched(cues.burstOf(c), f, p, q);
            if (burst < site.kinds.liftOf(cues.kindOf(c))) {
                return EARLY;
            }
            late = late || burst > LAST_TICK;
        }
        if (late) {
            return FULL;
        }
        int changed = 0;
        for (int c = 0; c < cues.size; c++) {
            int burst = stretched(cues.burstOf(c), f, p, q);
            if (burst != cues.burstOf(c)) {
                cues.setBurst(c, burst);
                changed++;
            }
        }
        return changed;
    }

    public int lay(int n) {
        if (n < 0 || n > WINDS) {
            return NONE;
        }
        if (cues.openOnes() > MOST_OPEN) {
            return SPENT;
        }
        laying.prepare(gap, n);
        if (!laying.findBest()) {
            return UNABLE;
        }
        laying.giveBest();
        return laying.bestMost;
    }

    public int proof(int d, int n) {
        Tape tape = tapeAt(d);
        if (tape == null || n < 0 || n > WINDS) {
            return NONE;
        }
        if (cues.openOnes() > MOST_OPEN) {
            return SPENT;
        }
        int wrong = tape.refusalAs(BYTES);
        if (wrong != 0) {
            return refuse(wrong);
        }
        laying.prepare(gap, n);
        int broken = laying.firstBroken(tape);
        if (broken >= 0) {
            return FAULT_BASE - broken;
        }
        if (tape.length < laying.opens) {
            return refuse(PLACE);
        }
        return laying.mostLoad();
    }

    public int place(int c, int s) {
        if (!cues.isCue(c) || (s != OPEN && !site.isBarge(s))) {
            return NONE;
        }
        int was = cues.bargeOf(c);
        cues.setBarge(c, s);
        return was;
    }

    // What is told by then: meters, rules, faults, a halt.

    public int meter(int w, int from, int known) {
        if (w < 0 || w >= WINDS || !isTick(from) || !isTick(known) || known < from) {
            return NONE;
        }
        if (meters.size >= READINGS) {
            return FULL;
        }
        meters.tell(w, from, known);
        return meters.size;
    }

    public int knows(int tick) {
        return isTick(tick) ? meters.windKnown(tick) : NONE;
    }

    public int hold(int d) {
        Tape tape = tapeAt(d);
        if (tape == null) {
            return NONE;
        }
        int wrong = tape.refusalAs(BYTES);
        if (wrong != 0) {
            return refuse(wrong);
        }
        int fault = rules.firstFault(tape);
        if (fault >= 0) {
            return FAULT_BASE - fault;
        }
        if (rules.size >= RULES || rules.ordersRead > RULE_ORDERS) {
            return FULL;
        }
        rules.add(tape);
        return rules.size - 1;
    }

    public int holdless() {
        int were = rules.size;
        rules.size = 0;
        return were;
    }

    public int fault(int c, int what) {
        if (!cues.isCue(c) || what < 0 || what > DUD) {
            return NONE;
        }
        int was = show.faultOf(c);
        show.setFault(c, what);
        return was;
    }

    public int halt(int tick) {
        if (tick != NO_HALT && !isTick(tick)) {
            return NONE;
        }
        int was = show.haltTick;
        show.haltTick = tick;
        return was;
    }

    // The show.

    public int fate(int c) {
        if (!cues.isCue(c)) {
            return NONE;
        }
        show.reckon();
        return show.fateOf(c);
    }

    public int goes(int c, int what) throws IllegalArgumentException, IllegalStateException {
        if (!cues.isCue(c) || what < 0 || what > 2) {
            throw new IllegalArgumentException("no such CUE or what");
        }
        show.reckon();
        int fate = show.fateOf(c);
        if (fate != FIRED && fate != REPLACED) {
            throw new IllegalStateException("the CUE doesn't fire");
        }
        int kind = show.kindHad(c);
        switch (what) {
            case 0:
                return kind;
            case 1:
                return cues.burstOf(c) - site.kinds.liftOf(kind);
            default:
                return cues.burstOf(c) + show.faultOf(c);
        }
    }

    public int many(int fate) {
        if (fate < FIRED || fate > LEFT_OPEN) {
            return NONE;
        }
        show.reckon();
        int number = 0;
        for (int c = 0; c < cues.size; c++) {
            if (show.fateOf(c) == fate) {
                number++;
            }
        }
        return number;
    }

    public int order(int i) {
        if (!cues.isCue(i)) {
            return NONE;
        }
        show.reckon();
        return show.cueAt(i);
    }

    // What was seen, and the duds.

    public int seen(int tick, int colour) {
        if (tick < 0 || tick > LAST_SEEN_TICK || colour < 1 || colour > COLOURS) {
            return NONE;
        }
        if (watch.size >= BURSTS_SEEN) {
            return FULL;
        }
        watch.tell(tick, colour);
        return watch.size;
    }

    public int unseen() {
        int were = watch.size;
        watch.size = 0;
        return were;
    }

    public int duds() {
        show.reckon();
        return watch.expected() - watch.greatestMatching(NONE);
    }

    public int dud(int c) {
        if (!cues.isCue(c)) {
            return NONE;
        }
        show.reckon();
        if (!show.isExpected(c)) {
            return NO_DUD_ASKED;
        }
        if (!watch.mayBeSeen(c)) {
            return SURELY;
        }
        return watch.greatestMatching(c) < watch.greatestMatching(NONE) ? NOT : MAYBE;
    }

    public int strange() {
        show.reckon();
        return watch.size - watch.greatestMatching(NONE);
    }

    // The tapes.

    public int tape(int d, int sort, int n) {
        Tape tape = tapeAt(d);
        if (tape == null || sort < BYTES || sort > LONGS || n > ROW) {
            return NONE;
        }
        if (n < 0) {
            return refuse(SIZE);
        }
        tape.makeRow(sort, n);
        return n;
    }

    public int keep(int d) {
        Tape tape = tapeAt(d);
        if (tape == null) {
            return NONE;
        }
        tape.makeShow(cues);
        return cues.size;
    }

    public int back(int d) {
        Tape tape = tapeAt(d);
        if (tape == null) {
            return NONE;
        }
        int wrong = tape.refusalAs(SHOW);
        if (wrong != 0) {
            return refuse(wrong);
        }
        if (!site.tellsAllOf(tape.kept)) {
            return UNABLE;
        }
        for (int c = 0; c < tape.kept.size; c++) {
            if (site.fireOf(tape.kept, c) < 0) {
                return EARLY;
            }
        }
        takeCues(tape.kept);
        return cues.size;
    }

    public int toss(int d) {
        Tape tape = tapeAt(d);
        if (tape == null) {
            return NONE;
        }
        int wrong = tape.refusalAs(SHOW);
        if (wrong != 0) {
            return refuse(wrong);
        }
        try {
            tape.throwFailure();
        } catch (IllegalStateException failure) {
            return tape.kept.openOnes();
        }
        return refuse(THROWN);
    }

    public int clear(int d) {
        Tape tape = tapeAt(d);
        if (tape == null) {
            return NONE;
        }
        int was = tape.sort;
        tape.sort = EMPTY;
        return was;
    }

    public int put(int d, int i, long v) {
        Tape tape = tapeAt(d);
        if (tape == null) {
            return NONE;
        }
        if (tape.sort == EMPTY) {
            return refuse(NOTHING);
        }
        if (!tape.isRow()) {
            return refuse(CAST);
        }
        if (!tape.hasPlace(i)) {
            return refuse(PLACE);
        }
        tape.setValue(i, v);
        return 1;
    }

    public long at(int d, int i) throws IllegalArgumentException, IllegalStateException {
        Tape tape = tapeAt(d);
        if (tape == null) {
            throw new IllegalArgumentException("no such TAPE");
        }
        if (!tape.isRow() || !tape.hasPlace(i)) {
            throw new IllegalStateException("no row, or no such place in it");
        }
        return tape.valueAt(i);
    }

    public int copy(int d, int i, int e, int j, int n) {
        Tape from = tapeAt(d);
        Tape to = tapeAt(e);
        if (from == null || to == null) {
            return NONE;
        }
        if (from.sort == EMPTY || to.sort == EMPTY) {
            return refuse(NOTHING);
        }
        if (!from.isRow() || from.sort != to.sort) {
            return refuse(CAST);
        }
        if (!from.hasPlaces(i, n) || !to.hasPlaces(j, n)) {
            return refuse(PLACE);
        }
        System.arraycopy(from.row, i, to.row, j, n);
        return n;
    }

    public int count(int what) {
        switch (what) {
            case 0:
                return site.kinds.number();
            case 1:
                return site.bargesTold();
            case 2:
                return cues.size;
            case 3:
                return cues.openOnes();
            case 4:
                return meters.size;
            case 5:
                return rules.size;
            case 6:
                return watch.size;
            case 7:
                return refusals;
            default:
                return NONE;
        }
    }

    private Tape tapeAt(int d) {
        return d >= 0 && d < TAPES ? tapes[d] : null;
    }

    private int refuse(int refusal) {
        refusals++;
        return refusal;
    }

    /** FAULTS and SEEN tell of the cues of before, so they go with them. */
    private void takeCues(Cues others) {
        cues.become(others);
        show.forgetFaults();
        watch.size = 0;
    }

    private boolean isLight(int k, int s, int angle, int w) {
        return site.kinds.isTold(k) && site.isBarge(s) && isAngle(angle) && w >= 0 && w < WINDS;
    }

    private static boolean isAngle(int angle) {
        return angle >= -MOST_ANGLE && angle <= MOST_ANGLE;
    }

    private static boolean isDrift(int drift) {
        return drift >= -MOST_DRIFT && drift <= MOST_DRIFT;
    }

    private static boolean isTick(int tick) {
        return tick >= 0 && tick <= LAST_TICK;
    }

    private static int stretched(int burst, int f, int p, int q) {
        return burst < f ? burst : f + Math.floorDiv((burst - f) * p, q);
    }

    /** The KINDS told; a LIFT of 0 stands for one that isn't. */
    private static final class Kinds {
        private final int[] lifts = new int[KINDS];
        private final int[] heights = new int[KINDS];
        private final int[] spreads = new int[KINDS];
        private final int[] burns = new int[KINDS];
        private final int[] colours = new int[KINDS];
        private final int[] lates = new int[KINDS];

        static boolean isAsSaid(int lift, int height, int spread, int rest) {
            if (lift < 1 || lift > MOST_LIFT || height < LEAST_HEIGHT || height > MOST_HEIGHT) {
                return false;
            }
            if (spread < 0 || spread > MOST_SPREAD || rest < 0) {
                return false;
            }
            int burn = rest / 1000;
            int colour = rest % 1000 / 10;
            return burn >= 1 && burn <= MOST_BURN && colour >= 1 && colour <= COLOURS
                    && rest % 10 <= MOST_LATE;
        }

        void tell(int k, int lift, int height, int spread, int rest) {
            if (k < 0 || k >= KINDS) {
                return;
            }
            lifts[k] = lift;
            heights[k] = height;
            spreads[k] = spread;
            burns[k] = rest / 1000;
            colours[k] = rest % 1000 / 10;
            lates[k] = rest % 10;
        }

        void forget() {
            Arrays.fill(lifts, 0);
        }

        boolean isTold(int k) {
            return k >= 0 && k < KINDS && lifts[k] > 0;
        }

        int number() {
            int number = 0;
            for (int k = 0; k < KINDS; k++) {
                if (lifts[k] > 0) {
                    number++;
                }
            }
            return number;
        }

        int liftOf(int k) {
            return isTold(k) ? lifts[k] : 0;
        }

        int heightOf(int k) {
            return isTold(k) ? heights[k] : 0;
        }

        int spreadOf(int k) {
            return isTold(k) ? spreads[k] : 0;
        }

        int burnOf(int k) {
            return isTold(k) ? burns[k] : 0;
        }

        int colourOf(int k) {
            return isTold(k) ? colours[k] : 0;
        }

        int lateOf(int k) {
            return isTold(k) ? lates[k] : 0;
        }
    }

    /**
     * The WINDS, and how far the embers of each KIND drift in each of them. All embers of a burst
     * fall through the same heights, so one fall stands for the five. The falls are reckoned when a
     * kind or a wind is told, because a show asks for each of them many times.
     */
    private static final class Air {
        private final int[] driftX = new int[WINDS * LAYERS];
        private final int[] driftY = new int[WINDS * LAYERS];
        private final boolean[] landsHot = new boolean[KINDS * WINDS * PARTS];
        private final int[] shiftX = new int[KINDS * WINDS * PARTS];
        private final int[] shiftY = new int[KINDS * WINDS * PARTS];

        void forget() {
            Arrays.fill(driftX, 0);
            Arrays.fill(driftY, 0);
        }

        void setDrift(int w, int layer, int dx, int dy) {
            if (w < 0 || w >= WINDS || layer < 0 || layer >= LAYERS) {
                return;
            }
            driftX[w * LAYERS + layer] = dx;
            driftY[w * LAYERS + layer] = dy;
        }

        /** The number of a fall: of a kind, in a wind, from its whole or half height; -1 if none. */
        int slot(int k, int w, int part) {
            if (k < 0 || k >= KINDS || w < 0 || w >= WINDS || part < WHOLE || part > HALF) {
                return -1;
            }
            return (k * WINDS + w) * PARTS + part;
        }

        boolean isHot(int slot) {
            return slot >= 0 && slot < landsHot.length && landsHot[slot];
        }

        int shiftXOf(int slot) {
            return slot >= 0 && slot < shiftX.length ? shiftX[slot] : 0;
        }

        int shiftYOf(int slot) {
            return slot >= 0 && slot < shiftY.length ? shiftY[slot] : 0;
        }

        void reckonKind(Kinds kinds, int k) {
            for (int w = 0; w < WINDS; w++) {
                reckonFalls(kinds, k, w);
            }
        }

        void reckonWind(Kinds kinds, int w) {
            for (int k = 0; k < KINDS; k++) {
                reckonFalls(kinds, k, w);
            }
        }

        private void reckonFalls(Kinds kinds, int k, int w) {
            int height = kinds.heightOf(k);
            int burn = kinds.burnOf(k);
            reckonFall(slot(k, w, WHOLE), w, 10 * height, burn);
            reckonFall(slot(k, w, HALF), w, 5 * height, burn);
        }

        private void reckonFall(int slot, int w, int height, int burn) {
            if (slot < 0 || slot >= landsHot.length || w < 0 || w >= WINDS) {
                return;
            }
            int x = 0;
            int y = 0;
            int z = height;
            boolean hot = false;
            for (int tick = 0; tick < burn && !hot; tick++) {
                int layer = Math.max(0, Math.min(LAYERS - 1, z / LAYER_DEPTH));
                x += driftX[w * LAYERS + layer];
                y += driftY[w * LAYERS + layer];
                z -= FALL;
                hot = z <= 0;
            }
            landsHot[slot] = hot;
            shiftX[slot] = x;
            shiftY[slot] = y;
        }
    }

    /** Where the show is: THE FIELD, the BARGES on it, the KINDS, and the winds over it. */
    private static final class Site {
        private final byte[] ground = new byte[SIDE * SIDE];
        private final int[] bargeX = new int[BARGES];
        private final int[] bargeY = new int[BARGES];
        /** 0 for a barge that isn't told. */
        private final int[] channels = new int[BARGES];
        final Kinds kinds = new Kinds();
        final Air air = new Air();

        void forget() {
            Arrays.fill(ground, (byte) WATER);
            Arrays.fill(channels, 0);
            kinds.forget();
            air.forget();
        }

        int groundOf(int x, int y) {
            if (x < 0 || x >= SIDE || y < 0 || y >= SIDE) {
                return LAND;
            }
            return ground[SIDE * y + x];
        }

        void setGround(int x, int y, int what) {
            if (x >= 0 && x < SIDE && y >= 0 && y < SIDE) {
                ground[SIDE * y + x] = (byte) what;
            }
        }

        void tellBarge(int s, int x, int y, int number) {
            if (s < 0 || s >= BARGES) {
                return;
            }
            bargeX[s] = x;
            bargeY[s] = y;
            channels[s] = number;
        }

        boolean isBarge(int s) {
            return s >= 0 && s < BARGES && channels[s] > 0;
        }

        int channelsOf(int s) {
            return isBarge(s) ? channels[s] : 0;
        }

        int bargesTold() {
            int number = 0;
            for (int s = 0; s < BARGES; s++) {
                if (channels[s] > 0) {
                    number++;
                }
            }
            return number;
        }

        int fireOf(Cues some, int c) {
            return some.burstOf(c) - kinds.liftOf(some.kindOf(c));
        }

        boolean tellsAllOf(Cues some) {
            for (int c = 0; c < some.size; c++) {
                int s = some.bargeOf(c);
                if (!kinds.isTold(some.kindOf(c)) || (s != OPEN && !isBarge(s))) {
                    return false;
                }
            }
            return true;
        }

        /** Middles lie whole cells apart, so the reach is counted in whole cells. */
        boolean holds(int s, int k) {
            if (!isBarge(s) || !kinds.isTold(k)) {
                return false;
            }
            int reach = 5 * kinds.heightOf(k) / CELL;
            int lastX = Math.min(SIDE - 1, bargeX[s] + reach);
            int lastY = Math.min(SIDE - 1, bargeY[s] + reach);
            for (int y = Math.max(0, bargeY[s] - reach); y <= lastY; y++) {
                for (int x = Math.max(0, bargeX[s] - reach); x <= lastX; x++) {
                    if (groundOf(x, y) == CROWD) {
                        return false;
                    }
                }
            }
            return true;
        }

        boolean isSafe(int k, int s, int angle, int w) {
            int whole = air.slot(k, w, WHOLE);
            int half = air.slot(k, w, HALF);
            for (int i = 0; i < EMBERS; i++) {
                int high = landing(k, s, angle, whole, i);
                if (high != COLD && groundAt(high) != WATER) {
                    return false;
                }
                int low = landing(k, s, angle, half, i);
                if (low != COLD && groundAt(low) == CROWD) {
                    return false;
                }
            }
            return true;
        }

        /** The cell in which the i-th ember of a fall lands hot, COLD or BEYOND. */
        int landing(int k, int s, int angle, int fall, int i) {
            if (!isBarge(s) || !air.isHot(fall)) {
                return COLD;
            }
            int side = 10 * kinds.spreadOf(k);
            int x = CELL * bargeX[s] + CELL / 2 + angle * kinds.heightOf(k) + air.shiftXOf(fall);
            int y = CELL * bargeY[s] + CELL / 2 + air.shiftYOf(fall);
            x += i == 1 ? side : i == 2 ? -side : 0;
            y += i == 3 ? side : i == 4 ? -side : 0;
            int cellX = Math.floorDiv(x, CELL);
            int cellY = Math.floorDiv(y, CELL);
            if (cellX < 0 || cellX >= SIDE || cellY < 0 || cellY >= SIDE) {
                return BEYOND;
            }
            return SIDE * cellY + cellX;
        }

        private int groundAt(int cell) {
            return cell >= 0 && cell < ground.length ? ground[cell] : LAND;
        }
    }

    /** Up to 120 cues, in the order of their numbers. */
    private static final class Cues {
        private final int[] bursts = new int[CUES];
        private final int[] kinds = new int[CUES];
        private final int[] barges = new int[CUES];
        private final int[] angles = new int[CUES];
        int size;

        boolean isCue(int c) {
            return c >= 0 && c < size && c < CUES;
        }

        int burstOf(int c) {
            return isCue(c) ? bursts[c] : 0;
        }

        int kindOf(int c) {
            return isCue(c) ? kinds[c] : 0;
        }

        int bargeOf(int c) {
            return isCue(c) ? barges[c] : OPEN;
        }

        int angleOf(int c) {
            return isCue(c) ? angles[c] : 0;
        }

        void setBurst(int c, int burst) {
            if (isCue(c)) {
                bursts[c] = burst;
            }
        }

        void setBarge(int c, int s) {
            if (isCue(c)) {
                barges[c] = s;
            }
        }

        boolean append(int burst, int k, int s, int angle) {
            if (size < 0 || size >= CUES) {
                return false;
            }
            bursts[size] = burst;
            kinds[size] = k;
            barges[size] = s;
            angles[size] = angle;
            size++;
            return true;
        }

        void become(Cues others) {
            System.arraycopy(others.bursts, 0, bursts, 0, CUES);
            System.arraycopy(others.kinds, 0, kinds, 0, CUES);
            System.arraycopy(others.barges, 0, barges, 0, CUES);
            System.arraycopy(others.angles, 0, angles, 0, CUES);
            size = others.size;
        }

        int openOnes() {
            int number = 0;
            for (int c = 0; c < size; c++) {
                if (bargeOf(c) == OPEN) {
                    number++;
                }
            }
            return number;
        }

        /** A tick beyond all lifts if there is no cue of the kind. */
        int firstBurstOfKind(int k) {
            int first = LAST_TICK;
            for (int c = 0; c < size; c++) {
                if (kindOf(c) == k) {
                    first = Math.min(first, burstOf(c));
                }
            }
            return first;
        }
    }

    /** Follows a row of ORDERS; what it writes is a draft until the whole row was found well. */
    private static final class Scribe {
        /** How many bytes each order takes, itself with its numbers. */
        private static final int[] ORDER_LENGTHS = {1, 4, 2, 4, 5, 5, 2, 1, 2};
        private static final int DEPTH = 3, MOST_TIMES = 9, MOST_BEATS = 50, MOST_AT_ONCE = 5;
        /** Far above what three loops of nine over a row of 100 bytes can need. */
        private static final int MOST_STEPS = 1000000;
        private static final int ENDED = -1, WRONG = -2;

        private final Site site;
        final Cues draft = new Cues();
        private final int[] loopStarts = new int[DEPTH];
        private final int[] timesLeft = new int[DEPTH];
        private int depth;
        private int now;
        private int beat;

        Scribe(Site site) {
            this.site = site;
        }

        /** The FIRST FAULT of the row, or -1 if the draft is written. */
        int firstFault(Tape row) {
            draft.size = 0;
            depth = 0;
            now = 0;
            beat = FIRST_BEAT;
            int place = 0;
            for (int step = 0; step < MOST_STEPS; step++) {
                int next = follow(row, place);
                if (next == ENDED) {
                    return -1;
                }
                if (next == WRONG) {
                    return place;
                }
                place = next;
            }
            return place;
        }

        /** Where the next order stands; ENDED, or WRONG if this one is a fault. */
        private int follow(Tape row, int place) {
            int order = row.numberAt(place);
            if (!row.hasPlace(place) || order < 0 || order >= ORDER_LENGTHS.length) {
                return WRONG;
            }
            int next = place + ORDER_LENGTHS[order];
            if (next > row.length) {
                return WRONG;
            }
            int n = row.numberAt(place + 1);
            switch (order) {
                case 0:
                    return depth == 0 ? ENDED : WRONG;
                case 2:
                    return moveOn(n) ? next : WRONG;
                case 6:
                    return enter(n, next) ? next : WRONG;
                case 7:
                    return leave(next);
                case 8:
                    return setBeat(n) ? next : WRONG;
                default:
                    return makeCues(row, place, order) ? next : WRONG;
            }
        }

        private boolean moveOn(int n) {
            if (n < 1 || n > MOST_BEATS) {
                return false;
            }
            now += n * beat;
            return true;
        }

        private boolean setBeat(int t) {
            if (t < 1 || t > MOST_BEATS) {
                return false;
            }
            beat = t;
            return true;
        }

        private boolean enter(int times, int start) {
            if (times < 2 || times > MOST_TIMES || depth < 0 || depth >= DEPTH) {
                return false;
            }
            loopStarts[depth] = start;
            timesLeft[depth] = times - 1;
            depth++;
            return true;
        }

        private int leave(int next) {
            int top = depth - 1;
            if (top < 0 || top >= DEPTH) {
                return WRONG;
            }
            if (timesLeft[top] > 0) {
                timesLeft[top]--;
                return loopStarts[top];
            }
            depth = top;
            return next;
        }

        private boolean makeCues(Tape row, int place, int order) {
            int k = row.numberAt(place + 1);
            int s = row.numberAt(place + 2);
            int third = row.numberAt(place + 3);
            int beats = row.numberAt(place + 4);
            switch (order) {
                case 1:
                    return isAngle(third) && makeCue(now, k, s, third);
                case 3:
                    return makeFan(k, s, third);
                case 4:
                    return areBehind(s, third, beats) && makeRun(k, s, third, beats);
                case 5:
                    return areBehind(s, third, beats) && makeCue(now, k, s, 0)
                            && makeCue(now + beats * beat, k, third, 0);
                default:
                    return false;
            }
        }

        private boolean areBehind(int s, int e, int beats) {
            return site.isBarge(s) && site.isBarge(e) && beats >= 0 && beats <= MOST_BEATS;
        }

        private boolean makeFan(int k, int s, int n) {
            if (n < 1 || n > MOST_AT_ONCE) {
                return false;
            }
            for (int i = 0; i < n; i++) {
                if (!makeCue(now, k, s, 2 * i - (n - 1))) {
                    return false;
                }
            }
            return true;
        }

        private boolean makeRun(int k, int s, int e, int beats) {
            int way = s <= e ? 1 : -1;
            int last = Math.abs(e - s);
            for (int i = 0; i <= last; i++) {
                int from = s + i * way;
                if (from == OPEN || !makeCue(now + i * beats * beat, k, from, 0)) {
                    return false;
                }
            }
            return true;
        }

        private boolean makeCue(int burst, int k, int s, int angle) {
            if (!site.kinds.isTold(k) || (s != OPEN && !site.isBarge(s))) {
                return false;
            }
            if (burst < site.kinds.liftOf(k) || burst > LAST_TICK) {
                return false;
            }
            return draft.append(burst, k, s, angle);
        }
    }

    /** Finds barges for the OPEN cues, of which there are 8 at most when it is prepared. */
    private static final class Laying {
        private final Site site;
        private final Cues cues;
        /** The numbers of the OPEN cues. */
        private final int[] open = new int[MOST_OPEN];
        /** Whether an OPEN cue may go on a barge as far as the cues that aren't OPEN go. */
        private final boolean[] fits = new boolean[MOST_OPEN * BARGES];
        /** Of each OPEN cue, those that may not be on one barge with it: a bit for each. */
        private final int[] clashes = new int[MOST_OPEN];
        private final int[] loads = new int[BARGES];
        /** The OPEN cues chosen for each barge: a bit for each. */
        private final int[] gathered = new int[BARGES];
        private final int[] chosen = new int[MOST_OPEN];
        private final int[] best = new int[MOST_OPEN];
        private int gap;
        int opens;
        int bestMost;

        Laying(Site site, Cues cues) {
            this.site = site;
            this.cues = cues;
        }

        void prepare(int newGap, int winds) {
            gap = newGap;
            opens = 0;
            Arrays.fill(loads, 0);
            Arrays.fill(gathered, 0);
            for (int c = 0; c < cues.size; c++) {
                int s = cues.bargeOf(c);
                if (s >= 0 && s < BARGES) {
                    loads[s]++;
                } else if (opens >= 0 && opens < MOST_OPEN) {
                    open[opens] = c;
                    opens++;
                }
            }
            for (int i = 0; i < opens && i < MOST_OPEN; i++) {
                for (int s = 0; s < BARGES; s++) {
                    fits[i * BARGES + s] = fitsAlone(open[i], s, winds);
                }
                clashes[i] = clashesOf(i);
            }
        }

        private int clashesOf(int i) {
            int clash = 0;
            for (int j = 0; j < opens && j < MOST_OPEN; j++) {
                if (i >= 0 && i < MOST_OPEN && !areApart(open[i], open[j])) {
                    clash |= 1 << j;
                }
            }
            return clash;
        }

        private boolean fitsAlone(int c, int s, int winds) {
            int k = cues.kindOf(c);
            if (!site.holds(s, k)) {
                return false;
            }
            for (int w = 0; w < winds; w++) {
                if (!site.isSafe(k, s, cues.angleOf(c), w)) {
                    return false;
                }
            }
            for (int other = 0; other < cues.size; other++) {
                if (cues.bargeOf(other) == s && !areApart(c, other)) {
                    return false;
                }
            }
            return true;
        }

        private boolean areApart(int c, int other) {
            return Math.abs(site.fireOf(cues, c) - site.fireOf(cues, other)) >= gap;
        }

        /** Whether the i-th OPEN cue may go on a barge beside those chosen for the ones ahead. */
        private boolean mayChoose(int i, int s) {
            if (i < 0 || i >= MOST_OPEN || s < 0 || s >= BARGES) {
                return false;
            }
            return fits[i * BARGES + s] && loads[s] < site.channelsOf(s)
                    && (clashes[i] & gathered[s]) == 0;
        }

        private void choose(int i, int s) {
            if (i >= 0 && i < MOST_OPEN && s >= 0 && s < BARGES) {
                chosen[i] = s;
                loads[s]++;
                gathered[s] |= 1 << i;
            }
        }

        private void unchoose(int i, int s) {
            if (i >= 0 && i < MOST_OPEN && s >= 0 && s < BARGES) {
                loads[s]--;
                gathered[s] &= ~(1 << i);
            }
        }

        private int loadOf(int s) {
            return s >= 0 && s < BARGES ? loads[s] : 0;
        }

        int mostLoad() {
            int most = 0;
            for (int s = 0; s < BARGES; s++) {
                most = Math.max(most, loads[s]);
            }
            return most;
        }

        /** The first place of the row that breaks a laying, or -1; the row may be too short. */
        int firstBroken(Tape row) {
            for (int i = 0; i < opens && i < row.length; i++) {
                int s = row.numberAt(i);
                if (!mayChoose(i, s)) {
                    return i;
                }
                choose(i, s);
            }
            return -1;
        }

        boolean findBest() {
            bestMost = CUES + 1;
            search(this, 0, mostLoad());
            return bestMost <= CUES;
        }

        /**
         * Tries the barges in order, and leaves a branch that can't become better than the best one
         * found: so of those that are alike the first stays. No deeper than 8.
         */
        private static void search(Laying laying, int i, int most) {
            if (most >= laying.bestMost) {
                return;
            }
            if (i >= laying.opens || i >= MOST_OPEN) {
                laying.bestMost = most;
                System.arraycopy(laying.chosen, 0, laying.best, 0, MOST_OPEN);
                return;
            }
            for (int s = 0; s < BARGES; s++) {
                if (laying.mayChoose(i, s)) {
                    laying.choose(i, s);
                    search(laying, i + 1, Math.max(most, laying.loadOf(s)));
                    laying.unchoose(i, s);
                }
            }
        }

        void giveBest() {
            for (int i = 0; i < opens && i < MOST_OPEN; i++) {
                cues.setBarge(open[i], best[i]);
            }
        }
    }

    /** The READINGS of the meters, in the order told. */
    private static final class Meters {
        private final int[] winds = new int[READINGS];
        private final int[] froms = new int[READINGS];
        private final int[] knowns = new int[READINGS];
        int size;

        void tell(int w, int from, int known) {
            if (size < 0 || size >= READINGS) {
                return;
            }
            winds[size] = w;
            froms[size] = from;
            knowns[size] = known;
            size++;
        }

        int windKnown(int tick) {
            int wind = 0;
            int latest = -1;
            for (int i = 0; i < size && i < READINGS; i++) {
                if (knowns[i] <= tick && froms[i] >= latest) {
                    latest = froms[i];
                    wind = winds[i];
                }
            }
            return wind;
        }
    }

    /** The RULES that hold, kept as their orders without the 0 at the end. */
    private static final class Rules {
        private static final int IF_FIRE = 1, IF_MISFIRES = 2, IF_WIND = 3;
        private static final int IF_BARGE = 4, IF_KIND = 5;
        private static final int BOTH = 6, EITHER = 7, INVERSE = 8;

        private final int[] orders = new int[RULES * RULE_ORDERS];
        private final int[] numbers = new int[RULES * RULE_ORDERS];
        private final int[] lengths = new int[RULES];
        int size;
        int ordersRead;

        /** The FIRST FAULT of the row, or -1; then ordersRead tells how many orders it has. */
        int firstFault(Tape row) {
            int place = 0;
            int depth = 0;
            ordersRead = 0;
            while (place < row.length) {
                int order = row.numberAt(place);
                if (order == 0) {
                    return depth == 1 ? -1 : place;
                }
                if (order < 0 || order > INVERSE || depth < takes(order)) {
                    return place;
                }
                if (order <= IF_KIND && (place + 1 >= row.length || row.numberAt(place + 1) < 0)) {
                    return place;
                }
                depth += 1 - takes(order);
                if (depth > STACK) {
                    return place;
                }
                place += order <= IF_KIND ? 2 : 1;
                ordersRead++;
            }
            return row.length;
        }

        private static int takes(int order) {
            return order <= IF_KIND ? 0 : order == INVERSE ? 1 : 2;
        }

        /** Only for a row that firstFault has found well. */
        void add(Tape row) {
            if (size < 0 || size >= RULES) {
                return;
            }
            int place = 0;
            int length = 0;
            while (length < ordersRead && length < RULE_ORDERS) {
                int order = row.numberAt(place);
                orders[size * RULE_ORDERS + length] = order;
                numbers[size * RULE_ORDERS + length] = row.numberAt(place + 1);
                place += order <= IF_KIND ? 2 : 1;
                length++;
            }
            lengths[size] = length;
            size++;
        }

        boolean anyHolds(Cues cues, int c, int fire, int wind, int misfires) {
            for (int r = 0; r < size && r < RULES; r++) {
                if (doesHold(r, cues, c, fire, wind, misfires)) {
                    return true;
                }
            }
            return false;
        }

        /** The stack is the low bits of a number: a rule never has more than 8 on it. */
        private boolean doesHold(int r, Cues cues, int c, int fire, int wind, int misfires) {
            if (r < 0 || r >= RULES) {
                return false;
            }
            int stack = 0;
            for (int i = 0; i < lengths[r] && i < RULE_ORDERS; i++) {
                int number = numbers[r * RULE_ORDERS + i];
                switch (orders[r * RULE_ORDERS + i]) {
                    case IF_FIRE:
                        stack = pushed(stack, fire >= 10 * number);
                        break;
                    case IF_MISFIRES:
                        stack = pushed(stack, misfires >= number);
                        break;
                    case IF_WIND:
                        stack = pushed(stack, wind == number);
                        break;
                    case IF_BARGE:
                        stack = pushed(stack, cues.bargeOf(c) == number);
                        break;
                    case IF_KIND:
                        stack = pushed(stack, cues.kindOf(c) == number);
                        break;
                    case BOTH:
                        stack = pushed(stack >> 2, (stack & 3) == 3);
                        break;
                    case EITHER:
                        stack = pushed(stack >> 2, (stack & 3) != 0);
                        break;
                    default:
                        stack = stack ^ 1;
                        break;
                }
            }
            return (stack & 1) == 1;
        }

        private static int pushed(int stack, boolean top) {
            return stack << 1 | (top ? 1 : 0);
        }
    }

    /** THE SHOW: what becomes of each cue by what was told by its FIRE. */
    private static final class Show {
        private final Site site;
        private final Cues cues;
        private final Meters meters;
        private final Rules rules;
        private final int[] faults = new int[CUES];
        /** The cues by FIRE, and their FIREs in that order. */
        private final int[] ordered = new int[CUES];
        private final int[] fires = new int[CUES];
        private final int[] fates = new int[CUES];
        private final int[] kindsHad = new int[CUES];
        int haltTick = NO_HALT;

        Show(Site site, Cues cues, Meters meters, Rules rules) {
            this.site = site;
            this.cues = cues;
            this.meters = meters;
            this.rules = rules;
        }

        void forget() {
            forgetFaults();
            haltTick = NO_HALT;
        }

        void forgetFaults() {
            Arrays.fill(faults, 0);
        }

        int faultOf(int c) {
            return c >= 0 && c < CUES ? faults[c] : 0;
        }

        void setFault(int c, int what) {
            if (c >= 0 && c < CUES) {
                faults[c] = what;
            }
        }

        int fateOf(int c) {
            return c >= 0 && c < CUES ? fates[c] : LEFT_OPEN;
        }

        int kindHad(int c) {
            return c >= 0 && c < CUES ? kindsHad[c] : NONE;
        }

        int cueAt(int i) {
            return i >= 0 && i < CUES ? ordered[i] : NONE;
        }

        /** A burst of such a cue should have been seen. */
        boolean isExpected(int c) {
            int fate = fateOf(c);
            return cues.isCue(c) && (fate == FIRED || fate == REPLACED || fate == MISFIRED);
        }

        /** By FIRE, because a rule may ask for the misfires of the cues ahead. */
        void reckon() {
            sortByFire();
            for (int i = 0; i < cues.size && i < CUES; i++) {
                reckonFate(ordered[i], fires[i], misfiresSeen(i, fires[i]));
            }
        }

        private void sortByFire() {
            for (int c = 0; c < cues.size && c < CUES; c++) {
                int fire = site.fireOf(cues, c);
                int i = c;
                while (i > 0 && fires[i - 1] > fire) {
                    fires[i] = fires[i - 1];
                    ordered[i] = ordered[i - 1];
                    i--;
                }
                fires[i] = fire;
                ordered[i] = c;
            }
        }

        /** Only cues ahead count: a burst comes after its FIRE, so no other was seen by then. */
        private int misfiresSeen(int ahead, int fire) {
            int number = 0;
            for (int i = 0; i < ahead && i < CUES; i++) {
                int c = ordered[i];
                if (fateOf(c) == MISFIRED && cues.burstOf(c) <= fire) {
                    number++;
                }
            }
            return number;
        }

        private void reckonFate(int c, int fire, int misfires) {
            if (c < 0 || c >= CUES) {
                return;
            }
            int wind = meters.windKnown(fire);
            kindsHad[c] = cues.kindOf(c);
            if (cues.bargeOf(c) == OPEN) {
                fates[c] = LEFT_OPEN;
            } else if (haltTick != NO_HALT && fire >= haltTick) {
                fates[c] = HALTED;
            } else if (rules.anyHolds(cues, c, fire, wind, misfires)) {
                fates[c] = BY_RULE;
            } else {
                int k = kindToFire(c, wind);
                fates[c] = k == NONE ? BY_WIND
                        : faults[c] == DUD ? MISFIRED
                        : k == cues.kindOf(c) ? FIRED : REPLACED;
                kindsHad[c] = k;
            }
        }

        /** The cue's own kind if it is safe, else the first that may stand for it, else NONE. */
        private int kindToFire(int c, int wind) {
            Kinds kinds = site.kinds;
            int own = cues.kindOf(c);
            int s = cues.bargeOf(c);
            int angle = cues.angleOf(c);
            if (site.isSafe(own, s, angle, wind)) {
                return own;
            }
            for (int k = 0; k < KINDS; k++) {
                if (kinds.isTold(k) && kinds.colourOf(k) == kinds.colourOf(own)
                        && kinds.liftOf(k) <= kinds.liftOf(own)
                        && site.isSafe(k, s, angle, wind) && site.holds(s, k)) {
                    return k;
                }
            }
            return NONE;
        }
    }

    /** The bursts SEEN, by their ticks, and how they match the cues of a reckoned show. */
    private static final class Watch {
        private final Site site;
        private final Cues cues;
        private final Show show;
        private final int[] ticks = new int[BURSTS_SEEN];
        private final int[] colours = new int[BURSTS_SEEN];
        private final boolean[] matched = new boolean[CUES];
        int size;

        Watch(Site site, Cues cues, Show show) {
            this.site = site;
            this.cues = cues;
            this.show = show;
        }

        void tell(int tick, int colour) {
            if (size < 0 || size >= BURSTS_SEEN) {
                return;
            }
            int i = size;
            while (i > 0 && ticks[i - 1] > tick) {
                ticks[i] = ticks[i - 1];
                colours[i] = colours[i - 1];
                i--;
            }
            ticks[i] = tick;
            colours[i] = colour;
            size++;
        }

        int expected() {
            int number = 0;
            for (int c = 0; c < cues.size; c++) {
                if (show.isExpected(c)) {
                    number++;
                }
            }
            return number;
        }

        boolean mayBeSeen(int c) {
            for (int i = 0; i < size && i < BURSTS_SEEN; i++) {
                if (mayBe(c, ticks[i], colours[i])) {
                    return true;
                }
            }
            return false;
        }

        /**
         * The size of a greatest matching without a cue (NONE: with all). Each cue may be what was
         * seen in one stretch of ticks; so going by ticks, and always taking the cue whose stretch
         * ends first, no other choice gives more.
         */
        int greatestMatching(int without) {
            for (int c = 0; c < CUES; c++) {
                matched[c] = false;
            }
            int number = 0;
            for (int i = 0; i < size && i < BURSTS_SEEN; i++) {
                int c = firstToEnd(ticks[i], colours[i], without);
                if (c >= 0 && c < CUES) {
                    matched[c] = true;
                    number++;
                }
            }
            return number;
        }

        private int firstToEnd(int tick, int colour, int without) {
            int first = NONE;
            int firstEnd = 0;
            for (int c = 0; c < cues.size && c < CUES; c++) {
                if (c != without && !matched[c] && mayBe(c, tick, colour)) {
                    int end = cues.burstOf(c) + lateOf(c);
                    if (first == NONE || end < firstEnd) {
                        first = c;
                        firstEnd = end;
                    }
                }
            }
            return first;
        }

        private boolean mayBe(int c, int tick, int colour) {
            return show.isExpected(c) && site.kinds.colourOf(show.kindHad(c)) == colour
                    && Math.abs(cues.burstOf(c) - tick) <= lateOf(c);
        }

        private int lateOf(int c) {
            return site.kinds.lateOf(show.kindHad(c));
        }
    }

    /** A TAPE: nothing, a row whose elements are kept narrowed, or a SHOW. */
    private static final class Tape {
        int sort;
        int length;
        final long[] row = new long[ROW];
        final Cues kept = new Cues();

        /** NOTHING or CAST if it doesn't hold what is wanted, else 0. */
        int refusalAs(int wanted) {
            if (sort == EMPTY) {
                return NOTHING;
            }
            return sort == wanted ? 0 : CAST;
        }

        boolean isRow() {
            return sort >= BYTES && sort <= LONGS;
        }

        boolean hasPlace(int i) {
            return i >= 0 && i < length && i < ROW;
        }

        boolean hasPlaces(int i, int n) {
            return i >= 0 && n >= 0 && length <= ROW && n <= length && i <= length - n;
        }

        void makeRow(int newSort, int n) {
            sort = newSort;
            length = n;
            Arrays.fill(row, 0);
        }

        void makeShow(Cues cues) {
            sort = SHOW;
            length = 0;
            kept.become(cues);
        }

        long valueAt(int i) {
            return hasPlace(i) ? row[i] : 0;
        }

        /** An element of a row of bytes; 0 beyond its end. */
        int numberAt(int i) {
            return (int) valueAt(i);
        }

        void setValue(int i, long v) {
            if (hasPlace(i)) {
                row[i] = narrowed(v);
            }
        }

        private long narrowed(long v) {
            switch (sort) {
                case BYTES:
                    return (byte) v;
                case SHORTS:
                    return (short) v;
                case INTS:
                    return (int) v;
                default:
                    return v;
            }
        }

        void throwFailure() {
            if (kept.openOnes() > 0) {
                throw new IllegalStateException("CUES are OPEN");
            }
        }
    }
}
