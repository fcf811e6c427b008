import java.util.Arrays;

/**
 * A thrower's bag of sticks that come back, flown in whole numbers; ../shared/DOC.md tells what each
 * call answers.
 *
 * Every slot (sticks, winds, trees, rows, sheets) is made once, in the constructor, and used again:
 * no call makes an object, and no reference is ever null.
 */
public final class ThrowersBag {
    public static final int BAD = -1, NOT = -2, FULL = -3, NONE = -4, NULL = -11, CAST = -12, INDEX = -13, SIZE = -14;

    private static final int MOST_STICKS = 9, MOST_WINDS = 8, MOST_TREES = 6, MOST_ROWS = 30, MOST_SHEETS = 4;
    private static final int BANDS = 4;
    private static final int FARTHEST_BEND = 9;
    private static final int NO_WIND = -1, NO_THROW = -2;

    private static final int LAST_TICK = 400, FIRST_CATCH = 20;
    private static final int IN_THE_AIR = 0, ON_THE_GROUND = 1, IN_THE_HAND = 2, IN_A_TREE = 3, OUT_OF_SIGHT = 4;

    private static final int CHOICE_SPIN = 800, CHOICE_PARTS = 4;
    private static final int[] CHOICE_LEANS = {20, 45, 70};
    private static final int[] CHOICE_STRENGTHS = {80, 160};

    private static final int LATEST_SECOND = 200;
    private static final int ROW_ITEMS = 7, MOST_ROWS_AT_ONCE = 8, SURE_ROWS = 3, MOST_MISS = 9999;

    /** 1000 times the sines of 0 to 90 degrees. */
    private static final int[] SINES = {
        0, 17, 35, 52, 70, 87, 105, 122, 139, 156, 174, 191, 208,
        225, 242, 259, 276, 292, 309, 326, 342, 358, 375, 391, 407, 423,
        438, 454, 469, 485, 500, 515, 530, 545, 559, 574, 588, 602, 616,
        629, 643, 656, 669, 682, 695, 707, 719, 731, 743, 755, 766, 777,
        788, 799, 809, 819, 829, 839, 848, 857, 866, 875, 883, 891, 899,
        906, 914, 921, 927, 934, 940, 946, 951, 956, 961, 966, 970, 974,
        978, 982, 985, 988, 990, 993, 995, 996, 998, 999, 999, 1000, 1000};

    /** SIN of 0 to 449 degrees: COS(d) is SIN(d + 90), and a flight needs six of them a tick. */
    private final int[] wave = sineWave();
    private final Stick[] sticks = new Stick[MOST_STICKS];
    private int stickCount = 0;
    private final Wind[] winds = new Wind[MOST_WINDS];
    private int windCount = 0;
    private final Wind calm = new Wind();
    private final Meadow meadow = new Meadow();
    /** The latest fly(), with all its ticks. */
    private final Flight latest = new Flight(wave, LAST_TICK + 1);
    /** What other calls fly: it must not disturb the latest fly(), and keeps no ticks. */
    private final Flight trial = new Flight(wave, 0);
    private final Aim trialAim = new Aim();
    private final int[] choice = new int[CHOICE_PARTS];
    private boolean hasChoice = false;
    private final Aim[] kept = {new Aim(), new Aim()};
    private final boolean[] isKept = {false, false};
    private final Match game = new Match();
    private final Row[] seenRows = new Row[MOST_ROWS];
    private int rowCount = 0;
    private final Grass meadowGrass = new Grass();
    private final Sheet[] sheets = new Sheet[MOST_SHEETS];

    public ThrowersBag() {
        for (int i = 0; i < MOST_STICKS; i++) {
            sticks[i] = new Stick();
        }
        for (int i = 0; i < MOST_WINDS; i++) {
            winds[i] = new Wind();
        }
        for (int i = 0; i < MOST_ROWS; i++) {
            seenRows[i] = new Row();
        }
        for (int i = 0; i < MOST_SHEETS; i++) {
            sheets[i] = new Sheet();
        }
    }

    // ---- 1 sticks, winds, trees

    public int plain(int weight, int grip, int loss, int drag) {
        return newStick(weight, grip, loss, drag, Stick.NO_HOVER);
    }

    public int winged(int weight, int grip, int loss, int drag, int hover) {
        if (!within(hover, 1, 200)) {
            return BAD;
        }
        return newStick(weight, grip, loss, drag, hover);
    }

    private int newStick(int weight, int grip, int loss, int drag, int hover) {
        boolean asTold = within(weight, 1, 100) && within(grip, 0, 60) && within(loss, 1, 20) && within(drag, 0, 10);
        if (!asTold) {
            return BAD;
        }
        if (stickCount >= MOST_STICKS) {
            return FULL;
        }
        sticks[stickCount].make(weight, grip, loss, drag, hover);
        stickCount++;
        return stickCount - 1;
    }

    public int lift(int stick, int band, int v) {
        if (!isStick(stick) || !within(band, 0, BANDS - 1) || !within(v, 0, 300)) {
            return BAD;
        }
        int was = sticks[stick].lifts[band];
        sticks[stick].lifts[band] = v;
        return was;
    }

    public int bend(int stick, int v) {
        if (!isStick(stick) || !isBend(v)) {
            return BAD - 10;
        }
        int was = sticks[stick].bent;
        sticks[stick].bent = v;
        return was;
    }

    public int told(int stick, int what) {
        if (!isStick(stick)) {
            return BAD;
        }
        Stick s = sticks[stick];
        switch (what) {
            case 0: return s.isWinged() ? 1 : 0;
            case 1: return s.weight;
            case 2: return s.grip;
            case 3: return s.loss;
            case 4: return s.drag;
            case 5: return s.isWinged() ? s.hover : NONE;
            case 6: return s.inTheBag ? 1 : 0;
            default: return BAD;
        }
    }

    public int lose(int stick, boolean is) {
        if (!isStick(stick)) {
            return BAD;
        }
        int was = sticks[stick].inTheBag ? 1 : 0;
        sticks[stick].inTheBag = !is;
        return was;
    }

    public int wind() {
        if (windCount >= MOST_WINDS) {
            return FULL;
        }
        windCount++;
        return windCount - 1;
    }

    public int blows(int wind, int band, int speed, int to) {
        boolean asTold = isWind(wind) && within(band, 0, BANDS - 1) && within(speed, 0, 60) && isDirection(to);
        if (!asTold) {
            return BAD;
        }
        int was = winds[wind].speeds[band];
        winds[wind].speeds[band] = speed;
        winds[wind].tos[band] = to;
        return was;
    }

    public int swing(int wind, int degrees) {
        if (!isWind(wind) || !within(degrees, -359, 359)) {
            return BAD;
        }
        winds[wind].turnBy(degrees);
        return 1;
    }

    public int tree(int x, int y, int thick, int high) {
        boolean asTold = within(x, -9000, 9000) && within(y, -9000, 9000) && within(thick, 1, 500) && within(high, 1, 3000);
        if (!asTold) {
            return BAD;
        }
        return meadow.plant(x, y, thick, high);
    }

    public int ring(int wide) {
        if (!within(wide, 1, 2000)) {
            return BAD;
        }
        int was = meadow.ringWide;
        meadow.ringWide = wide;
        return was;
    }

    public int table(int which, int d) {
        if (!within(which, 0, 1) || !isDirection(d)) {
            return BAD - 10000;
        }
        return wave[which == 0 ? d : d + 90];
    }

    // ---- 2 throws

    public int fly(int stick, int lean, int angle, int strength, int spin, int wind) {
        if (!isThrow(stick, lean, angle, strength, spin, wind)) {
            return BAD;
        }
        trialAim.take(stick, lean, angle, strength, spin, wind);
        return endOf(latest, trialAim, sticks[stick].bent);
    }

    public int at(int tick, int what) {
        if (!wasInLatest(tick) || !within(what, 0, Flight.PARTS - 1)) {
            return BAD - 100000;
        }
        return latest.partAt(tick, what);
    }

    public int ticks() {
        return latest.tick;
    }

    public int hit() {
        return latest.treeHit;
    }

    // ---- 3 choices, two, matches

    public int choose(int sticks, int winds) {
        if (!isSetOf(sticks, stickCount) || !isSetOf(winds, windCount)) {
            return BAD;
        }
        int throwable = sticks & bagBits();
        if (throwable == 0) {
            return NOT;
        }
        int most = -1;
        for (int stick = 0; stick < stickCount; stick++) {
            if ((throwable >> stick & 1) == 1) {
                most = bestOfStick(stick, winds, most);
            }
        }
        hasChoice = true;
        return most;
    }

    public int chosen(int what) {
        if (!hasChoice || !within(what, 0, CHOICE_PARTS - 1)) {
            return BAD;
        }
        return choice[what];
    }

    public int keep(int which, int stick, int lean, int angle, int strength, int spin, int wind) {
        if (!within(which, 0, 1) || !isThrow(stick, lean, angle, strength, spin, wind)) {
            return BAD;
        }
        kept[which].take(stick, lean, angle, strength, spin, wind);
        isKept[which] = true;
        return 1;
    }

    public int two(int gap) {
        if (!within(gap, 1, 100)) {
            return BAD;
        }
        if (!isKept[0] || !isKept[1] || kept[0].stick == kept[1].stick) {
            return NOT;
        }
        if (!comesBack(kept[0])) {
            return NONE;
        }
        int firstCatch = trial.tick;
        if (!comesBack(kept[1])) {
            return NONE;
        }
        int later = trial.tick - firstCatch;
        for (int n = 1; n <= LATEST_SECOND; n++) {
            if (Math.abs(n + later) >= gap) {
                return n;
            }
        }
        return NONE;
    }

    public int match(int i, int wind) {
        if (!within(i, 0, Match.MOST_THROWS - 1) || (wind != NO_THROW && !isWindOrNone(wind))) {
            return BAD - 10;
        }
        int was = game.throwWinds[i];
        game.throwWinds[i] = wind;
        return was;
    }

    public int style(int lean, int angle, int strength, int spin) {
        if (!isStyle(lean, angle, strength, spin)) {
            return BAD;
        }
        game.manner.take(0, lean, angle, strength, spin, NO_WIND);
        return 1;
    }

    public int points(int stick, int wind) {
        if (!isStick(stick) || !isWindOrNone(wind)) {
            return BAD;
        }
        return pointsOf(stick, wind);
    }

    public int best() {
        int throwsTold = game.throwCount();
        if (throwsTold == 0) {
            return NOT;
        }
        if (throwsTold > Integer.bitCount(bagBits())) {
            return NONE;
        }
        playMatch();
        return game.mostPoints;
    }

    public int order(int i) {
        if (!within(i, 0, Match.MOST_THROWS - 1) || game.throwWinds[i] == NO_THROW) {
            return BAD;
        }
        if (game.throwCount() > Integer.bitCount(bagBits())) {
            return NONE;
        }
        playMatch();
        return game.bestSticks[i];
    }

    // ---- 4 rows

    public int row(int stick, int lean, int angle, int strength, int spin, int x, int y) {
        if (!isRow(stick, lean, angle, strength, spin, x, y)) {
            return BAD;
        }
        if (rowCount >= MOST_ROWS) {
            return FULL;
        }
        addRow(stick, lean, angle, strength, spin, x, y);
        return rowCount - 1;
    }

    public int miss(int row, int bend) {
        if (!within(row, 0, rowCount - 1) || !isBend(bend)) {
            return BAD;
        }
        return missOf(seenRows[row], bend);
    }

    public int explain(int stick) {
        if (!isStick(stick)) {
            return BAD - 10;
        }
        if (rowsOf(stick) == 0) {
            return NONE - 10;
        }
        return explainedBend(stick);
    }

    public int sure(int stick) {
        if (!isStick(stick)) {
            return BAD;
        }
        int itsRows = rowsOf(stick);
        if (itsRows == 0) {
            return NONE;
        }
        if (itsRows < SURE_ROWS) {
            return 0;
        }
        int least = missSum(stick, explainedBend(stick));
        return missSum(stick, 0) > 2 * least ? 1 : 0;
    }

    public int unrow() {
        if (rowCount == 0) {
            return NOT;
        }
        rowCount--;
        return rowCount;
    }

    public int rows(int sheet, int lane, int i, int n) {
        if (!within(n, 0, MOST_ROWS_AT_ONCE)) {
            return BAD;
        }
        int fault = faultOf(sheet, lane);
        if (fault != 0) {
            return fault;
        }
        Sheet from = sheets[sheet];
        if (!from.has(i, n * ROW_ITEMS)) {
            return INDEX;
        }
        for (int r = 0; r < n; r++) {
            if (!holdsRow(from.items, i + r * ROW_ITEMS)) {
                return NOT;
            }
        }
        if (n > MOST_ROWS - rowCount) {
            return FULL;
        }
        for (int r = 0; r < n; r++) {
            addRowFrom(from.items, i + r * ROW_ITEMS);
        }
        return rowCount;
    }

    // ---- 5 the grass

    public int seen(int tick) {
        if (!wasInLatest(tick)) {
            return BAD;
        }
        int column = Grass.lineOf(latest.x - latest.partAt(tick, Flight.X));
        int line = Grass.lineOf(latest.y - latest.partAt(tick, Flight.Y));
        return meadowGrass.spreadFrom(column, line);
    }

    public int patch(int p, int weight, int k) {
        if (!isPatch(p) || !within(weight, 0, 1000) || !within(k, 1, 9)) {
            return BAD;
        }
        int was = meadowGrass.weights[p];
        meadowGrass.weights[p] = weight;
        meadowGrass.ks[p] = k;
        return was;
    }

    public int grass(int p, int what) {
        if (!isPatch(p) || !within(what, 0, 1)) {
            return BAD;
        }
        return what == 0 ? meadowGrass.weights[p] : meadowGrass.ks[p];
    }

    public int next() {
        return meadowGrass.likeliest();
    }

    public int search(int p) {
        if (!isPatch(p)) {
            return BAD;
        }
        return meadowGrass.lighten(p);
    }

    public int count(int what) {
        switch (what) {
            case 0: return stickCount;
            case 1: return Integer.bitCount(bagBits());
            case 2: return windCount;
            case 3: return meadow.treeCount;
            case 4: return rowCount;
            case 5: return game.throwCount();
            default: return BAD;
        }
    }

    // ---- 6 sheets

    public int sheet(int sheet, int lane, int n) {
        if (!isSheet(sheet) || !isLane(lane) || n > Sheet.MOST_ITEMS) {
            return BAD;
        }
        if (n < 0) {
            return SIZE;
        }
        sheets[sheet].hold(lane, n);
        return n;
    }

    public int drop(int sheet) {
        if (!isSheet(sheet)) {
            return BAD;
        }
        if (sheets[sheet].isEmptyHanded()) {
            return NULL;
        }
        int had = sheets[sheet].size;
        sheets[sheet].hold(Sheet.NOTHING, 0);
        return had;
    }

    public int item(int sheet, int lane, int i, int v) {
        int fault = faultOf(sheet, lane);
        if (fault != 0) {
            return fault;
        }
        if (!sheets[sheet].has(i, 1)) {
            return INDEX;
        }
        sheets[sheet].put(i, v);
        return 1;
    }

    public int copy(int from, int i, int to, int j, int n) {
        if (!isSheet(from) || !isSheet(to)) {
            return BAD;
        }
        Sheet source = sheets[from];
        Sheet target = sheets[to];
        if (source.isEmptyHanded() || target.isEmptyHanded()) {
            return NULL;
        }
        if (source.lane != target.lane) {
            return CAST;
        }
        if (!source.has(i, n) || !target.has(j, n)) {
            return INDEX;
        }
        System.arraycopy(source.items, i, target.items, j, n);
        return n;
    }

    // ---- what numbers are as told

    private static boolean within(int v, int least, int greatest) {
        return v >= least && v <= greatest;
    }

    private static boolean isDirection(int d) {
        return within(d, 0, 359);
    }

    private static boolean isBend(int v) {
        return within(v, -FARTHEST_BEND, FARTHEST_BEND);
    }

    private static boolean isPatch(int p) {
        return within(p, 0, Grass.PATCHES - 1);
    }

    private static boolean isSheet(int n) {
        return within(n, 0, MOST_SHEETS - 1);
    }

    private static boolean isLane(int n) {
        return within(n, 0, 2);
    }

    private static boolean isStyle(int lean, int angle, int strength, int spin) {
        return within(lean, 0, 90) && isDirection(angle) && within(strength, 30, 250) && within(spin, 100, 1000);
    }

    /** Whether bits are one or more of the things 0 .. count - 1, and no other. */
    private static boolean isSetOf(int bits, int count) {
        return bits > 0 && bits < 1 << count;
    }

    private boolean isStick(int n) {
        return within(n, 0, stickCount - 1);
    }

    private boolean isWind(int n) {
        return within(n, 0, windCount - 1);
    }

    private boolean isWindOrNone(int n) {
        return n == NO_WIND || isWind(n);
    }

    private boolean isThrow(int stick, int lean, int angle, int strength, int spin, int wind) {
        return isStick(stick) && isStyle(lean, angle, strength, spin) && isWindOrNone(wind);
    }

    private boolean isRow(int stick, int lean, int angle, int strength, int spin, int x, int y) {
        return isThrow(stick, lean, angle, strength, spin, NO_WIND) && within(x, -9999, 9999) && within(y, -9999, 9999);
    }

    /** The first of BAD, NULL, CAST with which a sheet can't be taken as a row of a lane; else 0. */
    private int faultOf(int sheet, int lane) {
        if (!isSheet(sheet) || !isLane(lane)) {
            return BAD;
        }
        if (sheets[sheet].isEmptyHanded()) {
            return NULL;
        }
        return sheets[sheet].lane == lane ? 0 : CAST;
    }

    /** Ahead of the first fly() not even tick 0 has been. */
    private boolean wasInLatest(int tick) {
        return latest.ended != IN_THE_AIR && within(tick, 0, latest.tick);
    }

    private int bagBits() {
        int bits = 0;
        for (int i = 0; i < stickCount; i++) {
            if (sticks[i].inTheBag) {
                bits |= 1 << i;
            }
        }
        return bits;
    }

    // ---- flying

    private static int[] sineWave() {
        int[] sines = new int[450];
        for (int d = 0; d <= 90; d++) {
            sines[d] = SINES[d];
            sines[180 - d] = SINES[d];
            sines[180 + d] = -SINES[d];
            sines[360 - d] = -SINES[d];
        }
        for (int d = 360; d < 450; d++) {
            sines[d] = sines[d - 360];
        }
        return sines;
    }

    /** Flies a throw with a bend that need not be the stick's own. */
    private int endOf(Flight flight, Aim aim, int bend) {
        Stick stick = sticks[aim.stick];
        Wind wind = aim.wind == NO_WIND ? calm : winds[aim.wind];
        flight.begin(aim);
        for (int t = 1; t <= LAST_TICK && flight.ended == IN_THE_AIR; t++) {
            flight.step(stick, bend, wind);
            flight.endIn(meadow);
            flight.note();
        }
        return flight.ended;
    }

    private boolean comesBack(Aim aim) {
        return endOf(trial, aim, sticks[aim.stick].bent) == IN_THE_HAND;
    }

    // ---- choosing

    /** Remembers what comes back in more winds than mostSoFar; answers in how many, or mostSoFar. */
    private int bestOfStick(int stick, int windBits, int mostSoFar) {
        int most = mostSoFar;
        for (int lean : CHOICE_LEANS) {
            for (int angle = 0; angle < 360; angle += 45) {
                for (int strength : CHOICE_STRENGTHS) {
                    trialAim.take(stick, lean, angle, strength, CHOICE_SPIN, NO_WIND);
                    int backs = backsIn(windBits, most);
                    if (backs > most) {
                        most = backs;
                        rememberChoice();
                    }
                }
            }
        }
        return most;
    }

    private void rememberChoice() {
        choice[0] = trialAim.stick;
        choice[1] = trialAim.lean;
        choice[2] = trialAim.angle;
        choice[3] = trialAim.strength;
    }

    /**
     * In how many of the winds the trial's throw comes back. Stops as soon as the winds that are left
     * can't bring more than toBeat: flights are what a choice costs.
     */
    private int backsIn(int windBits, int toBeat) {
        int backs = 0;
        int left = Integer.bitCount(windBits);
        for (int wind = 0; wind < windCount && backs + left > toBeat; wind++) {
            if ((windBits >> wind & 1) == 1) {
                left--;
                trialAim.wind = wind;
                if (comesBack(trialAim)) {
                    backs++;
                }
            }
        }
        return backs;
    }

    // ---- the match

    private int pointsOf(int stick, int wind) {
        game.manner.stick = stick;
        game.manner.wind = wind;
        int end = endOf(trial, game.manner, sticks[stick].bent);
        if (end == IN_THE_HAND) {
            return Match.MOST_POINTS;
        }
        return end == ON_THE_GROUND ? Math.max(0, 40 - trial.distance() / 50) : 0;
    }

    private void playMatch() {
        int bag = bagBits();
        for (int i = 0; i < Match.MOST_THROWS; i++) {
            if (game.throwWinds[i] != NO_THROW) {
                fillPoints(i, bag);
            }
        }
        game.findBest(bag);
    }

    private void fillPoints(int i, int bag) {
        for (int stick = 0; stick < stickCount; stick++) {
            if ((bag >> stick & 1) == 1) {
                game.pointTable[i][stick] = pointsOf(stick, game.throwWinds[i]);
            }
        }
    }

    // ---- rows and bends

    private void addRow(int stick, int lean, int angle, int strength, int spin, int x, int y) {
        Row added = seenRows[rowCount];
        added.aim.take(stick, lean, angle, strength, spin, NO_WIND);
        added.x = x;
        added.y = y;
        rowCount++;
    }

    private boolean holdsRow(int[] a, int i) {
        return isRow(a[i], a[i + 1], a[i + 2], a[i + 3], a[i + 4], a[i + 5], a[i + 6]);
    }

    private void addRowFrom(int[] a, int i) {
        addRow(a[i], a[i + 1], a[i + 2], a[i + 3], a[i + 4], a[i + 5], a[i + 6]);
    }

    private int rowsOf(int stick) {
        int n = 0;
        for (int i = 0; i < rowCount; i++) {
            if (seenRows[i].aim.stick == stick) {
                n++;
            }
        }
        return n;
    }

    private int missOf(Row seen, int bend) {
        endOf(trial, seen.aim, bend);
        return Math.min(MOST_MISS, Math.abs(seen.x - trial.x) + Math.abs(seen.y - trial.y));
    }

    private int missSum(int stick, int bend) {
        int sum = 0;
        for (int i = 0; i < rowCount; i++) {
            if (seenRows[i].aim.stick == stick) {
                sum += missOf(seenRows[i], bend);
            }
        }
        return sum;
    }

    /** Bends are tried in the order that settles ties: 0, -1, 1, -2, 2, .. */
    private int explainedBend(int stick) {
        int bestBend = 0;
        int least = missSum(stick, 0);
        for (int far = 1; far <= FARTHEST_BEND; far++) {
            for (int side = -1; side <= 1; side += 2) {
                int sum = missSum(stick, side * far);
                if (sum < least) {
                    least = sum;
                    bestBend = side * far;
                }
            }
        }
        return bestBend;
    }

    private static final class Stick {
        static final int NO_HOVER = 0;

        private int weight, grip, loss, drag;
        private int hover = NO_HOVER;
        private int bent = 0;
        private boolean inTheBag = false;
        private final int[] lifts = new int[BANDS];

        void make(int weight, int grip, int loss, int drag, int hover) {
            this.weight = weight;
            this.grip = grip;
            this.loss = loss;
            this.drag = drag;
            this.hover = hover;
            inTheBag = true;
        }

        boolean isWinged() {
            return hover != NO_HOVER;
        }

        int liftAt(int speed, int spin) {
            int band = speed < 60 ? 0 : speed < 120 ? 1 : speed < 180 ? 2 : 3;
            int lifted = lifts[band] * spin / 1000;
            if (hover != NO_HOVER) {
                return spin < 300 ? lifted + hover : lifted;
            }
            return spin < 100 ? 0 : lifted;
        }
    }

    private static final class Wind {
        private final int[] speeds = new int[BANDS];
        private final int[] tos = new int[BANDS];

        void turnBy(int degrees) {
            for (int band = 0; band < BANDS; band++) {
                tos[band] = Math.floorMod(tos[band] + degrees, 360);
            }
        }

        static int bandAt(int height) {
            return height < 200 ? 0 : height < 500 ? 1 : height < 1000 ? 2 : 3;
        }
    }

    private static final class Tree {
        private int x, y, thick, high;
    }

    /** What flights end in: the trees, and the ring around the thrower. */
    private static final class Meadow {
        private final Tree[] trees = new Tree[MOST_TREES];
        private int treeCount = 0;
        private int ringWide = 300;

        Meadow() {
            for (int i = 0; i < MOST_TREES; i++) {
                trees[i] = new Tree();
            }
        }

        int plant(int x, int y, int thick, int high) {
            if (treeCount >= MOST_TREES) {
                return FULL;
            }
            Tree planted = trees[treeCount];
            planted.x = x;
            planted.y = y;
            planted.thick = thick;
            planted.high = high;
            treeCount++;
            return treeCount - 1;
        }
    }

    /** How a throw is thrown; stick and wind by their numbers. */
    private static final class Aim {
        private int stick, lean, angle, strength, spin;
        private int wind = NO_WIND;

        void take(int stick, int lean, int angle, int strength, int spin, int wind) {
            this.stick = stick;
            this.lean = lean;
            this.angle = angle;
            this.strength = strength;
            this.spin = spin;
            this.wind = wind;
        }
    }

    private static final class Flight {
        static final int PARTS = 8, X = 0, Y = 1;

        private int x, y, height, climb, way, speed, spin, lean;
        private int tick = 0;
        private int ended = IN_THE_AIR;
        private int treeHit = NONE;
        private final int[] wave;
        private final int[] trail;

        Flight(int[] wave, int ticksKept) {
            this.wave = wave;
            trail = new int[ticksKept * PARTS];
        }

        void begin(Aim aim) {
            x = 0;
            y = 0;
            height = 150;
            climb = 0;
            way = 100 * aim.angle;
            speed = aim.strength;
            spin = aim.spin;
            lean = aim.lean;
            tick = 0;
            ended = IN_THE_AIR;
            treeHit = NONE;
            note();
        }

        void step(Stick stick, int bend, Wind wind) {
            tick++;
            int rise = (stick.liftAt(speed, spin) * wave[lean + 90] / 1000 - stick.weight) / 10;
            climb = Math.max(-80, Math.min(80, climb + rise));
            height += climb;
            way = Math.floorMod(way + (stick.grip + bend) * spin * wave[lean] / 100000, 36000);
            x += speed * wave[way / 100] / 1000;
            y += speed * wave[way / 100 + 90] / 1000;
            int band = Wind.bandAt(height);
            x += wind.speeds[band] * wave[wind.tos[band]] / 1000;
            y += wind.speeds[band] * wave[wind.tos[band] + 90] / 1000;
            spin = Math.max(0, spin - stick.loss);
            speed = Math.max(20, speed - stick.drag);
            if (tick % 4 == 0) {
                lean = Math.max(0, lean - 1);
            }
        }

        void endIn(Meadow meadow) {
            for (int i = 0; i < meadow.treeCount && treeHit == NONE; i++) {
                Tree tree = meadow.trees[i];
                if (height <= tree.high && isNear(tree.x, tree.y, tree.thick)) {
                    treeHit = i;
                }
            }
            if (treeHit != NONE) {
                ended = IN_A_TREE;
            } else if (height <= 0) {
                ended = ON_THE_GROUND;
            } else if (tick >= FIRST_CATCH && within(height, 50, 250) && isNear(0, 0, meadow.ringWide)) {
                ended = IN_THE_HAND;
            } else if (tick >= LAST_TICK) {
                ended = OUT_OF_SIGHT;
            }
        }

        /** In long: a flight goes so far that the squares leave int. */
        boolean isNear(int placeX, int placeY, long reach) {
            long dx = x - placeX;
            long dy = y - placeY;
            return dx * dx + dy * dy <= reach * reach;
        }

        /** The whole root, bit by bit: no flight ends 2 ** 20 away. */
        int distance() {
            long square = (long) x * x + (long) y * y;
            long root = 0;
            for (int bit = 1 << 19; bit > 0; bit >>= 1) {
                if ((root + bit) * (root + bit) <= square) {
                    root += bit;
                }
            }
            return (int) root;
        }

        void note() {
            int i = tick * PARTS;
            if (i < 0 || i > trail.length - PARTS) {
                return;
            }
            trail[i] = x;
            trail[i + 1] = y;
            trail[i + 2] = height;
            trail[i + 3] = climb;
            trail[i + 4] = way;
            trail[i + 5] = speed;
            trail[i + 6] = spin;
            trail[i + 7] = lean;
        }

        int partAt(int atTick, int what) {
            return trail[atTick * PARTS + what];
        }
    }

    /** A throw that was seen to end at a place. */
    private static final class Row {
        private final Aim aim = new Aim();
        private int x, y;
    }

    private static final class Match {
        static final int MOST_THROWS = 5, MOST_POINTS = 50;

        private final int[] throwWinds = new int[MOST_THROWS];
        private final Aim manner = new Aim();
        private final int[][] pointTable = new int[MOST_THROWS][MOST_STICKS];
        private final int[] triedSticks = new int[MOST_THROWS];
        private final int[] bestSticks = new int[MOST_THROWS];
        private int mostPoints;

        Match() {
            Arrays.fill(throwWinds, NO_THROW);
            manner.take(0, 45, 0, 120, 800, NO_WIND);
        }

        int throwCount() {
            int n = 0;
            for (int i = 0; i < MOST_THROWS; i++) {
                if (throwWinds[i] != NO_THROW) {
                    n++;
                }
            }
            return n;
        }

        void findBest(int bag) {
            mostPoints = -1;
            tryThrow(0, bag, 0);
        }

        /**
         * Sticks rise at every throw, and only more points take the lead: so the first order by numbers
         * keeps it. What can't take the lead any more, were all throws that are left caught, is not tried.
         */
        private void tryThrow(int i, int free, int points) {
            if (points + (MOST_THROWS - i) * MOST_POINTS <= mostPoints) {
                return;
            }
            if (i >= MOST_THROWS) {
                mostPoints = points;
                System.arraycopy(triedSticks, 0, bestSticks, 0, MOST_THROWS);
                return;
            }
            if (throwWinds[i] == NO_THROW) {
                tryThrow(i + 1, free, points);
                return;
            }
            for (int stick = 0; stick < MOST_STICKS; stick++) {
                if ((free >> stick & 1) == 1) {
                    triedSticks[i] = stick;
                    tryThrow(i + 1, free & ~(1 << stick), points + pointTable[i][stick]);
                }
            }
        }
    }

    private static final class Grass {
        static final int WIDE = 5, PATCHES = 25;
        private static final int PATCH_SIZE = 400, TO_THE_EDGE = 1000;

        private final int[] weights = new int[PATCHES];
        private final int[] ks = new int[PATCHES];

        Grass() {
            Arrays.fill(ks, 5);
        }

        /** The column (or row) so far from the middle; beyond the grass the nearest one. */
        static int lineOf(int away) {
            int line = Math.floorDiv(away + TO_THE_EDGE, PATCH_SIZE);
            return Math.max(0, Math.min(WIDE - 1, line));
        }

        int spreadFrom(int column, int line) {
            for (int p = 0; p < PATCHES; p++) {
                int steps = Math.abs(p % WIDE - column) + Math.abs(p / WIDE - line);
                weights[p] = 1000 / (1 + steps);
            }
            return line * WIDE + column;
        }

        int likeliest() {
            int found = NONE;
            int most = 0;
            for (int p = 0; p < PATCHES; p++) {
                if (weights[p] * ks[p] > most) {
                    most = weights[p] * ks[p];
                    found = p;
                }
            }
            return found;
        }

        int lighten(int p) {
            weights[p] = (10 - ks[p]) * weights[p] / 10;
            return weights[p];
        }
    }

    private static final class Sheet {
        static final int MOST_ITEMS = 60, NOTHING = -1;

        private int lane = NOTHING;
        private int size = 0;
        private final int[] items = new int[MOST_ITEMS];

        void hold(int newLane, int n) {
            lane = newLane;
            size = n;
            Arrays.fill(items, 0);
        }

        boolean isEmptyHanded() {
            return lane == NOTHING;
        }

        /** Whether n items from i on are there; none are there behind the last one, too. */
        boolean has(int i, int n) {
            return n >= 0 && n <= size && i >= 0 && i <= size - n;
        }

        /** As the lane's own type keeps it: the lowest bits. */
        void put(int i, int v) {
            if (lane == 0) {
                items[i] = (byte) v;
            } else if (lane == 1) {
                items[i] = (short) v;
            } else {
                items[i] = v;
            }
        }
    }
}
