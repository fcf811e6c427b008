import java.util.ArrayList;
import java.util.List;

/**
 * The document a second time, as plainly as it can be said and without any regard for room or speed, to
 * hold the class against. It answers by call names, and shares no code with the class.
 */
final class Reference {
    private static final int BAD = -1, NOT = -2, FULL = -3, NONE = -4, NULL = -11, CAST = -12, INDEX = -13, SIZE = -14;

    private static final class Stick {
        int kind, weight, grip, loss, drag, hover, bend;
        int[] lifts = {0, 0, 0, 0};
        boolean lost = false;
    }

    /** One throw's ticks: eight numbers each; and how and where (the tree) it ended. */
    private static final class Flown {
        List<long[]> ticks = new ArrayList<>();
        int end;
        int tree = NONE;

        int last() {
            return ticks.size() - 1;
        }

        long x() {
            return ticks.get(last())[0];
        }

        long y() {
            return ticks.get(last())[1];
        }
    }

    private final List<Stick> sticks = new ArrayList<>();
    private final List<int[][]> winds = new ArrayList<>();
    private final List<int[]> trees = new ArrayList<>();
    private int ring = 300;
    private Flown latest = null;
    private int[] choice = null;
    private final int[][] kept = {null, null};
    private final int[] match = {-2, -2, -2, -2, -2};
    private int[] style = {45, 0, 120, 800};
    private final List<int[]> rows = new ArrayList<>();
    private final int[] weights = new int[25];
    private final int[] ks = new int[25];
    private final Object[] sheets = new Object[4];

    Reference() {
        for (int p = 0; p < 25; p++) {
            ks[p] = 5;
        }
    }

    // what is as told

    private static boolean in(int v, int from, int to) {
        return from <= v && v <= to;
    }

    private boolean stick(int s) {
        return in(s, 0, sticks.size() - 1);
    }

    private boolean wind(int w) {
        return in(w, 0, winds.size() - 1);
    }

    private boolean goodThrow(int s, int lean, int angle, int strength, int spin, int w) {
        return stick(s) && in(lean, 0, 90) && in(angle, 0, 359) && in(strength, 30, 250) && in(spin, 100, 1000)
                && (w == -1 || wind(w));
    }

    // part 1

    static long sin(int d) {
        if (d <= 90) {
            return Math.round(1000 * Math.sin(Math.toRadians(d)));
        }
        return d <= 180 ? sin(180 - d) : -sin(d - 180);
    }

    static long cos(int d) {
        return d >= 270 ? sin(d - 270) : sin(d + 90);
    }

    int plain(int weight, int grip, int loss, int drag) {
        return add(0, weight, grip, loss, drag, 1);
    }

    int winged(int weight, int grip, int loss, int drag, int hover) {
        return add(1, weight, grip, loss, drag, hover);
    }

    private int add(int kind, int weight, int grip, int loss, int drag, int hover) {
        if (!in(weight, 1, 100) || !in(grip, 0, 60) || !in(loss, 1, 20) || !in(drag, 0, 10) || !in(hover, 1, 200)) {
            return BAD;
        }
        if (sticks.size() == 9) {
            return FULL;
        }
        Stick s = new Stick();
        s.kind = kind;
        s.weight = weight;
        s.grip = grip;
        s.loss = loss;
        s.drag = drag;
        s.hover = hover;
        sticks.add(s);
        return sticks.size() - 1;
    }

    int lift(int s, int band, int v) {
        if (!stick(s) || !in(band, 0, 3) || !in(v, 0, 300)) {
            return BAD;
        }
        int was = sticks.get(s).lifts[band];
        sticks.get(s).lifts[band] = v;
        return was;
    }

    int bend(int s, int v) {
        if (!stick(s) || !in(v, -9, 9)) {
            return -11;
        }
        int was = sticks.get(s).bend;
        sticks.get(s).bend = v;
        return was;
    }

    int told(int s, int what) {
        if (!stick(s) || !in(what, 0, 6)) {
            return BAD;
        }
        Stick t = sticks.get(s);
        return new int[] {t.kind, t.weight, t.grip, t.loss, t.drag, t.kind == 0 ? NONE : t.hover, t.lost ? 0 : 1}[what];
    }

    int lose(int s, boolean is) {
        if (!stick(s)) {
            return BAD;
        }
        int was = sticks.get(s).lost ? 0 : 1;
        sticks.get(s).lost = is;
        return was;
    }

    int wind() {
        if (winds.size() == 8) {
            return FULL;
        }
        winds.add(new int[4][2]);
        return winds.size() - 1;
    }

    int blows(int w, int band, int speed, int to) {
        if (!wind(w) || !in(band, 0, 3) || !in(speed, 0, 60) || !in(to, 0, 359)) {
            return BAD;
        }
        int was = winds.get(w)[band][0];
        winds.get(w)[band] = new int[] {speed, to};
        return was;
    }

    int swing(int w, int degrees) {
        if (!wind(w) || !in(degrees, -359, 359)) {
            return BAD;
        }
        for (int[] part : winds.get(w)) {
            part[1] = (part[1] + degrees + 360) % 360;
        }
        return 1;
    }

    int tree(int x, int y, int thick, int high) {
        if (!in(x, -9000, 9000) || !in(y, -9000, 9000) || !in(thick, 1, 500) || !in(high, 1, 3000)) {
            return BAD;
        }
        if (trees.size() == 6) {
            return FULL;
        }
        trees.add(new int[] {x, y, thick, high});
        return trees.size() - 1;
    }

    int ring(int wide) {
        if (!in(wide, 1, 2000)) {
            return BAD;
        }
        int was = ring;
        ring = wide;
        return was;
    }

    int table(int which, int d) {
        if (!in(which, 0, 1) || !in(d, 0, 359)) {
            return -10001;
        }
        return (int) (which == 0 ? sin(d) : cos(d));
    }

    // part 2

    private Flown flown(int s, int lean, int angle, int strength, int spin, int w, int bend) {
        Stick stick = sticks.get(s);
        Flown f = new Flown();
        long[] now = {0, 0, 150, 0, 100L * angle, strength, spin, lean};
        f.ticks.add(now.clone());
        for (int tick = 1; f.end == 0; tick++) {
            oneTick(stick, w, bend, tick, now);
            f.ticks.add(now.clone());
            ends(f, tick, now);
        }
        return f;
    }

    private void oneTick(Stick stick, int w, int bend, int tick, long[] now) {
        long speed = now[5];
        long spin = now[6];
        int lean = (int) now[7];
        long lift = stick.lifts[(int) Math.min(3, speed / 60)] * spin / 1000;
        if (stick.kind == 1 && spin < 300) {
            lift += stick.hover;
        }
        if (stick.kind == 0 && spin < 100) {
            lift = 0;
        }
        now[3] += (lift * cos(lean) / 1000 - stick.weight) / 10;
        now[3] = now[3] > 80 ? 80 : now[3] < -80 ? -80 : now[3];
        now[2] += now[3];
        now[4] += (stick.grip + bend) * spin * sin(lean) / 100000;
        now[4] = (now[4] + 36000) % 36000;
        now[0] += speed * sin((int) now[4] / 100) / 1000;
        now[1] += speed * cos((int) now[4] / 100) / 1000;
        if (w != -1) {
            long h = now[2];
            int[] part = winds.get(w)[h < 200 ? 0 : h < 500 ? 1 : h < 1000 ? 2 : 3];
            now[0] += part[0] * sin(part[1]) / 1000;
            now[1] += part[0] * cos(part[1]) / 1000;
        }
        now[6] = Math.max(0, spin - stick.loss);
        now[5] = Math.max(20, speed - stick.drag);
        if (tick % 4 == 0 && lean > 0) {
            now[7]--;
        }
    }

    private void ends(Flown f, int tick, long[] now) {
        long x = now[0];
        long y = now[1];
        long h = now[2];
        for (int t = trees.size() - 1; t >= 0; t--) {
            int[] tree = trees.get(t);
            long dx = x - tree[0];
            long dy = y - tree[1];
            if (dx * dx + dy * dy <= (long) tree[2] * tree[2] && h <= tree[3]) {
                f.end = 3;
                f.tree = t;
            }
        }
        if (f.end == 3) {
            return;
        }
        if (h <= 0) {
            f.end = 1;
        } else if (tick >= 20 && x * x + y * y <= (long) ring * ring && h >= 50 && h <= 250) {
            f.end = 2;
        } else if (tick == 400) {
            f.end = 4;
        }
    }

    private Flown flown(int s, int lean, int angle, int strength, int spin, int w) {
        return flown(s, lean, angle, strength, spin, w, sticks.get(s).bend);
    }

    /** For those who look for such a throw; no call of the face. */
    boolean comesBack(int s, int lean, int angle, int strength, int spin, int w) {
        return flown(s, lean, angle, strength, spin, w).end == 2;
    }

    int fly(int s, int lean, int angle, int strength, int spin, int w) {
        if (!goodThrow(s, lean, angle, strength, spin, w)) {
            return BAD;
        }
        latest = flown(s, lean, angle, strength, spin, w);
        return latest.end;
    }

    int at(int tick, int what) {
        if (latest == null || !in(tick, 0, latest.last()) || !in(what, 0, 7)) {
            return -100001;
        }
        return (int) latest.ticks.get(tick)[what];
    }

    int ticks() {
        return latest == null ? 0 : latest.last();
    }

    int hit() {
        return latest == null ? NONE : latest.tree;
    }

    // part 3

    int choose(int stickBits, int windBits) {
        if (stickBits <= 0 || windBits <= 0 || stickBits >= 1 << sticks.size() || windBits >= 1 << winds.size()) {
            return BAD;
        }
        int most = -1;
        for (int s = 0; s < sticks.size(); s++) {
            if ((stickBits & 1 << s) == 0 || sticks.get(s).lost) {
                continue;
            }
            for (int lean = 20; lean <= 70; lean += 25) {
                for (int angle = 0; angle <= 315; angle += 45) {
                    for (int strength = 80; strength <= 160; strength += 80) {
                        int backs = 0;
                        for (int w = 0; w < winds.size(); w++) {
                            if ((windBits & 1 << w) != 0 && flown(s, lean, angle, strength, 800, w).end == 2) {
                                backs++;
                            }
                        }
                        if (backs > most) {
                            most = backs;
                            choice = new int[] {s, lean, angle, strength};
                        }
                    }
                }
            }
        }
        return most < 0 ? NOT : most;
    }

    int chosen(int what) {
        return choice == null || !in(what, 0, 3) ? BAD : choice[what];
    }

    int keep(int which, int s, int lean, int angle, int strength, int spin, int w) {
        if (!in(which, 0, 1) || !goodThrow(s, lean, angle, strength, spin, w)) {
            return BAD;
        }
        kept[which] = new int[] {s, lean, angle, strength, spin, w};
        return 1;
    }

    int two(int gap) {
        if (!in(gap, 1, 100)) {
            return BAD;
        }
        int[] a = kept[0];
        int[] b = kept[1];
        if (a == null || b == null || a[0] == b[0]) {
            return NOT;
        }
        Flown first = flown(a[0], a[1], a[2], a[3], a[4], a[5]);
        Flown second = flown(b[0], b[1], b[2], b[3], b[4], b[5]);
        if (first.end == 2 && second.end == 2) {
            for (int n = 1; n <= 200; n++) {
                int caught = n + second.last();
                if (caught >= first.last() + gap || caught <= first.last() - gap) {
                    return n;
                }
            }
        }
        return NONE;
    }

    int match(int i, int w) {
        if (!in(i, 0, 4) || !(w == -2 || w == -1 || wind(w))) {
            return -11;
        }
        int was = match[i];
        match[i] = w;
        return was;
    }

    int style(int lean, int angle, int strength, int spin) {
        if (!in(lean, 0, 90) || !in(angle, 0, 359) || !in(strength, 30, 250) || !in(spin, 100, 1000)) {
            return BAD;
        }
        style = new int[] {lean, angle, strength, spin};
        return 1;
    }

    int points(int s, int w) {
        if (!stick(s) || !(w == -1 || wind(w))) {
            return BAD;
        }
        Flown f = flown(s, style[0], style[1], style[2], style[3], w);
        if (f.end != 1) {
            return f.end == 2 ? 50 : 0;
        }
        long root = 0;
        while ((root + 1) * (root + 1) <= f.x() * f.x() + f.y() * f.y()) {
            root++;
        }
        return (int) Math.max(0, 40 - root / 50);
    }

    /** All orders of sticks, each number by number; null if there are too few sticks. */
    private int[] bestOrder(int[] most) {
        List<Integer> places = new ArrayList<>();
        List<Integer> bag = new ArrayList<>();
        for (int i = 0; i < 5; i++) {
            if (match[i] != -2) {
                places.add(i);
            }
        }
        for (int s = 0; s < sticks.size(); s++) {
            if (!sticks.get(s).lost) {
                bag.add(s);
            }
        }
        if (bag.size() < places.size()) {
            return null;
        }
        int[][] table = new int[5][9];
        for (int i : places) {
            for (int s : bag) {
                table[i][s] = points(s, match[i]);
            }
        }
        int[] best = null;
        most[0] = -1;
        int all = 1;
        for (int i = 0; i < places.size(); i++) {
            all *= bag.size();
        }
        for (int number = 0; number < all; number++) {
            int[] order = new int[5];
            int used = 0;
            int sum = 0;
            int rest = number;
            for (int i = places.size() - 1; i >= 0; i--) {
                int s = bag.get(rest % bag.size());
                rest /= bag.size();
                used |= 1 << s;
                order[places.get(i)] = s;
                sum += table[places.get(i)][s];
            }
            if (Integer.bitCount(used) == places.size() && sum > most[0]) {
                most[0] = sum;
                best = order;
            }
        }
        return best;
    }

    int best() {
        int[] most = {0};
        if (count(5) == 0) {
            return NOT;
        }
        return bestOrder(most) == null ? NONE : most[0];
    }

    int order(int i) {
        if (!in(i, 0, 4) || match[i] == -2) {
            return BAD;
        }
        int[] order = bestOrder(new int[1]);
        return order == null ? NONE : order[i];
    }

    // part 4

    private boolean goodRow(int[] r) {
        return goodThrow(r[0], r[1], r[2], r[3], r[4], -1) && in(r[5], -9999, 9999) && in(r[6], -9999, 9999);
    }

    int row(int s, int lean, int angle, int strength, int spin, int x, int y) {
        int[] r = {s, lean, angle, strength, spin, x, y};
        if (!goodRow(r)) {
            return BAD;
        }
        if (rows.size() == 30) {
            return FULL;
        }
        rows.add(r);
        return rows.size() - 1;
    }

    int miss(int row, int bend) {
        if (!in(row, 0, rows.size() - 1) || !in(bend, -9, 9)) {
            return BAD;
        }
        int[] r = rows.get(row);
        Flown f = flown(r[0], r[1], r[2], r[3], r[4], -1, bend);
        return (int) Math.min(9999, Math.abs(f.x() - r[5]) + Math.abs(f.y() - r[6]));
    }

    private int sum(int s, int bend) {
        int sum = 0;
        for (int i = 0; i < rows.size(); i++) {
            sum += rows.get(i)[0] == s ? miss(i, bend) : 0;
        }
        return sum;
    }

    private int rowsOf(int s) {
        int n = 0;
        for (int[] r : rows) {
            n += r[0] == s ? 1 : 0;
        }
        return n;
    }

    int explain(int s) {
        if (!stick(s)) {
            return -11;
        }
        if (rowsOf(s) == 0) {
            return -14;
        }
        int[] sums = new int[19];
        int least = Integer.MAX_VALUE;
        for (int b = -9; b <= 9; b++) {
            sums[b + 9] = sum(s, b);
            least = Math.min(least, sums[b + 9]);
        }
        int found = 99;
        for (int b = -9; b <= 9; b++) {
            if (sums[b + 9] == least && Math.abs(b) < Math.abs(found)) {
                found = b;
            }
        }
        return found;
    }

    int sure(int s) {
        if (!stick(s)) {
            return BAD;
        }
        if (rowsOf(s) == 0) {
            return NONE;
        }
        return rowsOf(s) >= 3 && sum(s, 0) > 2 * sum(s, explain(s)) ? 1 : 0;
    }

    int unrow() {
        if (rows.isEmpty()) {
            return NOT;
        }
        rows.remove(rows.size() - 1);
        return rows.size();
    }

    int rows(int sheet, int lane, int i, int n) {
        if (!in(sheet, 0, 3) || !in(lane, 0, 2) || !in(n, 0, 8)) {
            return BAD;
        }
        if (sheets[sheet] == null) {
            return NULL;
        }
        if (laneOf(sheets[sheet]) != lane) {
            return CAST;
        }
        if (i < 0 || i + 7L * n > lengthOf(sheets[sheet])) {
            return INDEX;
        }
        List<int[]> come = new ArrayList<>();
        for (int r = 0; r < n; r++) {
            int[] one = new int[7];
            for (int c = 0; c < 7; c++) {
                one[c] = java.lang.reflect.Array.getInt(sheets[sheet], i + 7 * r + c);
            }
            if (!goodRow(one)) {
                return NOT;
            }
            come.add(one);
        }
        if (rows.size() + n > 30) {
            return FULL;
        }
        rows.addAll(come);
        return rows.size();
    }

    // part 5

    int seen(int tick) {
        if (latest == null || !in(tick, 0, latest.last())) {
            return BAD;
        }
        int column = line(latest.x(), latest.ticks.get(tick)[0]);
        int row = line(latest.y(), latest.ticks.get(tick)[1]);
        for (int p = 0; p < 25; p++) {
            weights[p] = 1000 / (1 + Math.abs(p % 5 - column) + Math.abs(p / 5 - row));
        }
        return 5 * row + column;
    }

    private static int line(long end, long middle) {
        int line = 0;
        for (long from = middle - 600; from <= middle + 600; from += 400) {
            if (end >= from) {
                line++;
            }
        }
        return line;
    }

    int patch(int p, int weight, int k) {
        if (!in(p, 0, 24) || !in(weight, 0, 1000) || !in(k, 1, 9)) {
            return BAD;
        }
        int was = weights[p];
        weights[p] = weight;
        ks[p] = k;
        return was;
    }

    int grass(int p, int what) {
        if (!in(p, 0, 24) || !in(what, 0, 1)) {
            return BAD;
        }
        return what == 0 ? weights[p] : ks[p];
    }

    int next() {
        int found = 0;
        for (int p = 1; p < 25; p++) {
            if (weights[p] * ks[p] > weights[found] * ks[found]) {
                found = p;
            }
        }
        return weights[found] == 0 ? NONE : found;
    }

    int search(int p) {
        if (!in(p, 0, 24)) {
            return BAD;
        }
        weights[p] = (10 - ks[p]) * weights[p] / 10;
        return weights[p];
    }

    int count(int what) {
        int bag = 0;
        for (Stick s : sticks) {
            bag += s.lost ? 0 : 1;
        }
        int thrown = 0;
        for (int w : match) {
            thrown += w == -2 ? 0 : 1;
        }
        return !in(what, 0, 5) ? BAD
                : new int[] {sticks.size(), bag, winds.size(), trees.size(), rows.size(), thrown}[what];
    }

    // part 6: Java's own arrays

    private static int laneOf(Object row) {
        return row instanceof byte[] ? 0 : row instanceof short[] ? 1 : 2;
    }

    private static int lengthOf(Object row) {
        return java.lang.reflect.Array.getLength(row);
    }

    int sheet(int sheet, int lane, int n) {
        if (!in(sheet, 0, 3) || !in(lane, 0, 2) || n > 60) {
            return BAD;
        }
        if (n < 0) {
            return SIZE;
        }
        sheets[sheet] = lane == 0 ? new byte[n] : lane == 1 ? new short[n] : new int[n];
        return n;
    }

    int drop(int sheet) {
        if (!in(sheet, 0, 3)) {
            return BAD;
        }
        if (sheets[sheet] == null) {
            return NULL;
        }
        int had = lengthOf(sheets[sheet]);
        sheets[sheet] = null;
        return had;
    }

    int item(int sheet, int lane, int i, int v) {
        if (!in(sheet, 0, 3) || !in(lane, 0, 2)) {
            return BAD;
        }
        try {
            if (lane == 0) {
                byte[] row = (byte[]) sheets[sheet];
                row[i] = (byte) v;
            } else if (lane == 1) {
                short[] row = (short[]) sheets[sheet];
                row[i] = (short) v;
            } else {
                int[] row = (int[]) sheets[sheet];
                row[i] = v;
            }
        } catch (NullPointerException e) {
            return NULL;
        } catch (ClassCastException e) {
            return CAST;
        } catch (IndexOutOfBoundsException e) {
            return INDEX;
        }
        return 1;
    }

    int copy(int from, int i, int to, int j, int n) {
        if (!in(from, 0, 3) || !in(to, 0, 3)) {
            return BAD;
        }
        try {
            System.arraycopy(sheets[from], i, sheets[to], j, n);
        } catch (NullPointerException e) {
            return NULL;
        } catch (ArrayStoreException e) {
            return CAST;
        } catch (IndexOutOfBoundsException e) {
            return INDEX;
        }
        return n;
    }
}
