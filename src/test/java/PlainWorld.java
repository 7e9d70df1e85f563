import java.util.ArrayDeque;
import java.util.ArrayList;
import java.util.Deque;
import java.util.List;
import java.util.NoSuchElementException;

/**
 * The document once more, cell by cell and without any regard to speed, as a measure for ModelTest. It shares no
 * code with the program, and looks at single cells where the program looks at tiles.
 */
final class PlainWorld {
    static final class Box implements Cloneable {
        int x, y, w, h, x0, y0, hs, vs, late, buffer, drop, keys, before, ticks, carrier;
        boolean own;
        int[] stat = new int[7];

        Box copy() {
            try {
                Box other = (Box) clone();
                other.stat = stat.clone();
                return other;
            } catch (CloneNotSupportedException e) {
                throw new IllegalStateException(e);
            }
        }
    }

    static final class Lift {
        int x, y, w, dx, dy, range, left;

        Lift copy() {
            Lift l = new Lift();
            l.x = x;
            l.y = y;
            l.w = w;
            l.dx = dx;
            l.dy = dy;
            l.range = range;
            l.left = left;
            return l;
        }
    }

    static final class State {
        int[][] tiles = new int[24][14];
        List<Box> boxes = new ArrayList<>();
        List<Lift> lifts = new ArrayList<>();
        int clock;

        State copy() {
            State s = new State();
            for (int c = 0; c < 24; c++) {
                s.tiles[c] = tiles[c].clone();
            }
            for (Box b : boxes) {
                s.boxes.add(b.copy());
            }
            for (Lift l : lifts) {
                s.lifts.add(l.copy());
            }
            s.clock = clock;
            return s;
        }
    }

    private State s = new State();
    private int[] settings = {5, 10, 4, 3};
    private final Deque<State> past = new ArrayDeque<>();
    private State saved;
    private int[] savedSettings;
    private String text = "";
    private int fault = -1;

    // ---- cells ----

    private int cell(int x, int y) {
        if (x < 0 || x > 383) {
            return 1;
        }
        if (y < 0 || y > 223) {
            return 0;
        }
        return s.tiles[x / 16][y / 16];
    }

    private boolean firm(int x, int y) {
        int k = cell(x, y);
        return k == 1 || k == 5 || k == 6 || k == 7 || k == 8;
    }

    private boolean slope(int x, int y) {
        int k = cell(x, y);
        return k == 3 || k == 4;
    }

    private int surface(int x, int y) {
        int r = y / 16;
        return cell(x, y) == 3 ? 16 * r + x % 16 + 1 : 16 * r + 16 - x % 16;
    }

    /** Whether a firm cell counts for a box whose foot cell is fx,y. */
    private boolean counts(int cx, int cy, int fx, int y) {
        if (!firm(cx, cy)) {
            return false;
        }
        if (cx < 0 || cx > 383) {
            return true;
        }
        return !(slope(fx, y) && cy >= 0 && cy / 16 == y / 16);
    }

    private boolean blocked(Box b, int x, int y) {
        for (int cx = x; cx < x + b.w; cx++) {
            for (int cy = y; cy < y + b.h; cy++) {
                if (counts(cx, cy, x + b.w / 2, y)) {
                    return true;
                }
            }
        }
        return false;
    }

    private int firmBelow(Box b, int x, int y) {
        int set = 0;
        for (int cx = x; cx < x + b.w; cx++) {
            if (counts(cx, y - 1, x + b.w / 2, y)) {
                set |= 1 << cell(cx, y - 1);
            }
        }
        return set;
    }

    private boolean liftSupports(Lift l, Box b, int x, int y) {
        if (b.drop > 0 || l.y != y) {
            return false;
        }
        for (int cx = x; cx < x + b.w; cx++) {
            if (cx >= l.x && cx <= l.x + l.w - 1) {
                return true;
            }
        }
        return false;
    }

    private int supports(Box b, int x, int y, Lift besides) {
        int sum = 0;
        if (firmBelow(b, x, y) != 0) {
            sum += 1;
        }
        boolean floor = false;
        for (int cx = x; cx < x + b.w; cx++) {
            floor |= cell(cx, y - 1) == 2;
        }
        if (floor && Math.floorMod(y, 16) == 0 && b.drop == 0) {
            sum += 2;
        }
        int foot = x + b.w / 2;
        if (slope(foot, y - 1) && surface(foot, y - 1) == y) {
            sum += 4;
        }
        boolean lift = false;
        for (Lift l : s.lifts) {
            lift |= l != besides && liftSupports(l, b, x, y);
        }
        return lift ? sum + 8 : sum;
    }

    private boolean held(Box b, int x, int y) {
        return supports(b, x, y, null) != 0;
    }

    private boolean standing(Box b) {
        return held(b, b.x, b.y) && b.vs <= 0;
    }

    // ---- unit moves ----

    private boolean side(Box b, int d) {
        int x2 = b.x + d;
        int y2 = b.y;
        int foot = x2 + b.w / 2;
        if (slope(foot, b.y)) {
            int t = surface(foot, b.y);
            if (t > b.y + 1) {
                return false;
            }
            if (t == b.y + 1) {
                y2 = t;
            }
        }
        if (blocked(b, x2, y2)) {
            return false;
        }
        boolean was = held(b, b.x, b.y);
        b.x = x2;
        b.y = y2;
        if (was && !held(b, x2, y2) && held(b, x2, y2 - 1)) {
            b.y = y2 - 1;
        }
        return true;
    }

    private boolean up(Box b) {
        if (blocked(b, b.x, b.y + 1)) {
            return false;
        }
        b.y++;
        return true;
    }

    // ---- a tick ----

    private void pass() {
        past.addLast(s.copy());
        if (past.size() > 12) {
            past.removeFirst();
        }
        run();
    }

    private void run() {
        for (Box b : s.boxes) {
            b.carrier = -1;
            for (int i = s.lifts.size() - 1; i >= 0; i--) {
                if (b.vs <= 0 && liftSupports(s.lifts.get(i), b, b.x, b.y)) {
                    b.carrier = i;
                }
            }
        }
        s.clock++;
        for (int i = 0; i < s.lifts.size(); i++) {
            Lift l = s.lifts.get(i);
            for (Box b : s.boxes) {
                if (b.carrier == i) {
                    carry(b, l);
                }
            }
            l.x += l.dx;
            l.y += l.dy;
            if (--l.left == 0) {
                l.left = l.range;
                l.dx *= -1;
                l.dy *= -1;
            }
        }
        for (Box b : s.boxes) {
            update(b);
        }
    }

    private void carry(Box b, Lift l) {
        for (int i = 0; i < Math.abs(l.dx); i++) {
            if (!side(b, Integer.signum(l.dx))) {
                break;
            }
        }
        for (int i = 0; i < l.dy; i++) {
            if (!up(b)) {
                break;
            }
        }
        for (int i = 0; i < -l.dy; i++) {
            if (supports(b, b.x, b.y, l) != 0) {
                break;
            }
            b.y--;
        }
    }

    private void update(Box b) {
        boolean jumpKey = (b.keys & 4) != 0;
        // (1)
        boolean st = standing(b);
        if (st) {
            b.late = settings[2];
            b.stat[5]++;
        } else if (b.late > 0) {
            b.late--;
        }
        // (2)
        if (jumpKey && (b.before & 4) == 0) {
            b.buffer = settings[3];
        } else if (b.buffer > 0) {
            b.buffer--;
        }
        // (3)
        if (b.drop > 0) {
            b.drop--;
        }
        if (st && (supports(b, b.x, b.y, null) & 5) == 0 && (b.keys & 8) != 0 && b.buffer > 0) {
            b.drop = 8;
            b.buffer = 0;
            b.late = 0;
            st = false;
        }
        // (4)
        int d = (b.keys & 3) == 2 ? 1 : (b.keys & 3) == 1 ? -1 : 0;
        boolean ice = firmBelow(b, b.x, b.y) == 32;
        if (d != 0) {
            int change = st && !ice ? 2 : 1;
            if (d == 1 && b.hs < settings[0]) {
                b.hs += change;
                if (b.hs > settings[0]) {
                    b.hs = settings[0];
                }
            } else if (d == -1 && b.hs > -settings[0]) {
                b.hs -= change;
                if (b.hs < -settings[0]) {
                    b.hs = -settings[0];
                }
            }
        } else if (st && !ice) {
            if (Math.abs(b.hs) <= 2) {
                b.hs = 0;
            } else {
                b.hs -= 2 * Integer.signum(b.hs);
            }
        }
        // (5)
        if (b.buffer > 0 && b.late > 0) {
            b.vs = settings[1];
            b.buffer = 0;
            b.late = 0;
            st = false;
            b.own = true;
            b.stat[2]++;
        } else if (b.buffer > 0 && !st) {
            boolean right = blocked(b, b.x + 1, b.y);
            boolean left = blocked(b, b.x - 1, b.y);
            if (right || left) {
                b.vs = settings[1];
                b.hs = right ? -settings[0] : settings[0];
                b.buffer = 0;
                b.own = true;
                b.stat[2]++;
            }
        }
        // (6)
        if (b.own && b.vs > 4 && !jumpKey) {
            b.vs = 4;
        }
        // (7)
        if (!st) {
            if (b.vs > -12) {
                b.vs--;
            }
            if (d != 0 && b.vs < -3 && blocked(b, b.x + d, b.y)) {
                b.vs = -3;
            }
        }
        // (8)
        if (st) {
            int under = firmBelow(b, b.x, b.y);
            if ((under & 64) != 0 && side(b, 1)) {
                b.stat[4]++;
            }
            if ((under & 128) != 0 && side(b, -1)) {
                b.stat[4]++;
            }
        }
        // (9)
        int way = b.hs;
        for (int i = 0; i < Math.abs(way); i++) {
            if (!side(b, Integer.signum(way))) {
                b.hs = 0;
                break;
            }
            b.stat[4]++;
        }
        // (10)
        way = b.vs;
        for (int i = 0; i < Math.abs(way); i++) {
            boolean moved;
            if (way > 0) {
                moved = up(b);
                if (!moved) {
                    b.vs = 0;
                }
            } else {
                moved = !held(b, b.x, b.y);
                if (moved) {
                    b.y--;
                } else {
                    b.vs = (firmBelow(b, b.x, b.y) & 256) != 0 ? 16 : 0;
                    b.stat[3]++;
                }
            }
            if (!moved) {
                break;
            }
            b.stat[4]++;
        }
        // (11)
        boolean dies = b.y < -40;
        for (int cx = b.x; cx < b.x + b.w; cx++) {
            for (int cy = b.y; cy < b.y + b.h; cy++) {
                if (cell(cx, cy) == 10) {
                    s.tiles[cx / 16][cy / 16] = 0;
                    b.stat[0]++;
                }
                dies |= cell(cx, cy) == 9;
            }
        }
        if (dies) {
            b.x = b.x0;
            b.y = b.y0;
            b.hs = b.vs = b.late = b.buffer = b.drop = 0;
            b.own = false;
            b.stat[1]++;
        }
        // (12)
        b.before = b.keys;
        if (b.vs <= 0) {
            b.own = false;
        }
        b.stat[6] = b.ticks == 0 ? b.y : Math.max(b.y, b.stat[6]);
        b.ticks++;
    }

    // ---- the face ----

    private static void arg(boolean ok) {
        if (!ok) {
            throw new IllegalArgumentException();
        }
    }

    private static void index(boolean ok) {
        if (!ok) {
            throw new IndexOutOfBoundsException();
        }
    }

    private static void state(boolean ok) {
        if (!ok) {
            throw new IllegalStateException();
        }
    }

    private static boolean in(int v, int lo, int hi) {
        return lo <= v && v <= hi;
    }

    private Box box(int i) {
        index(in(i, 0, s.boxes.size() - 1));
        return s.boxes.get(i);
    }

    private boolean anyBlocked() {
        boolean any = false;
        for (Box b : s.boxes) {
            any |= blocked(b, b.x, b.y);
        }
        return any;
    }

    int setTile(int c, int r, int k) {
        index(in(c, 0, 23) && in(r, 0, 13));
        arg(in(k, 0, 10));
        int old = s.tiles[c][r];
        s.tiles[c][r] = k;
        if (anyBlocked()) {
            s.tiles[c][r] = old;
            throw new IllegalStateException();
        }
        past.clear();
        return old;
    }

    int tile(int c, int r) {
        index(in(c, 0, 23) && in(r, 0, 13));
        return s.tiles[c][r];
    }

    int addBody(int x, int y, int w, int h) {
        arg(in(x, 0, 383) && in(y, 0, 223) && in(w, 4, 16) && in(h, 4, 28));
        state(s.boxes.size() < 4);
        Box b = new Box();
        b.x = b.x0 = x;
        b.y = b.y0 = b.stat[6] = y;
        b.w = w;
        b.h = h;
        state(!blocked(b, x, y));
        s.boxes.add(b);
        past.clear();
        return s.boxes.size() - 1;
    }

    int removeBody(int i) {
        s.boxes.remove(box(i));
        past.clear();
        return s.boxes.size();
    }

    private int number(Box b, int what) {
        return new int[] {b.x, b.y, b.hs, b.vs, b.late, b.buffer, b.drop, b.w, b.h, b.keys}[what];
    }

    int body(int i, int what) {
        Box b = box(i);
        arg(in(what, 0, 9));
        return number(b, what);
    }

    int press(int i, int keys) {
        Box b = box(i);
        arg(in(keys, 0, 15));
        int old = b.keys;
        b.keys = keys;
        return old;
    }

    int push(int i, int h, int v) {
        Box b = box(i);
        arg(in(h, -16, 16) && in(v, -12, 16));
        int old = b.hs * b.hs + b.vs * b.vs;
        b.hs = h;
        b.vs = v;
        b.own = false;
        return old;
    }

    int addPlatform(int x, int y, int w, int dx, int dy, int range) {
        arg(in(x, 0, 383) && in(y, 0, 223) && in(w, 16, 64) && in(dx, -2, 2) && in(dy, -2, 2) && in(range, 1, 60));
        state(s.lifts.size() < 4);
        Lift l = new Lift();
        l.x = x;
        l.y = y;
        l.w = w;
        l.dx = dx;
        l.dy = dy;
        l.range = l.left = range;
        s.lifts.add(l);
        past.clear();
        return s.lifts.size() - 1;
    }

    int removePlatform(int i) {
        index(in(i, 0, s.lifts.size() - 1));
        s.lifts.remove(i);
        past.clear();
        return s.lifts.size();
    }

    int platform(int i, int what) {
        index(in(i, 0, s.lifts.size() - 1));
        arg(in(what, 0, 5));
        Lift l = s.lifts.get(i);
        return new int[] {l.x, l.y, l.w, l.dx, l.dy, l.left}[what];
    }

    int count(int what) {
        arg(in(what, 0, 3));
        if (what < 2) {
            return what == 0 ? s.boxes.size() : s.lifts.size();
        }
        int n = 0;
        for (int[] column : s.tiles) {
            for (int k : column) {
                if (what == 2 ? k != 0 : k == 10) {
                    n++;
                }
            }
        }
        return n;
    }

    int set(int i, int value) {
        index(in(i, 0, 3));
        int[][] ranges = {{1, 10}, {5, 16}, {0, 10}, {1, 10}};
        arg(in(value, ranges[i][0], ranges[i][1]));
        int old = settings[i];
        settings[i] = value;
        return old;
    }

    int tick(int n) {
        arg(in(n, 1, 100));
        for (int i = 0; i < n; i++) {
            pass();
        }
        return s.clock;
    }

    int tickUntilStanding(int i, int most) {
        box(i);
        arg(in(most, 1, 100));
        for (int n = 0; n <= most; n++) {
            if (standing(box(i))) {
                return n;
            }
            if (n < most) {
                pass();
            }
        }
        throw new NoSuchElementException();
    }

    int undo() {
        state(!past.isEmpty());
        s = past.removeLast();
        return s.clock;
    }

    int clock() {
        return s.clock;
    }

    int support(int i) {
        Box b = box(i);
        return supports(b, b.x, b.y, null);
    }

    boolean stands(int i) {
        return standing(box(i));
    }

    int below(int i) {
        Box b = box(i);
        return firmBelow(b, b.x, b.y);
    }

    boolean isBlocked(int i, int dx, int dy) {
        Box b = box(i);
        arg(in(dx, -400, 400) && in(dy, -400, 400));
        return blocked(b, b.x + dx, b.y + dy);
    }

    int clearance(int i, int d) {
        Box b = box(i).copy();
        arg(d == 1 || d == -1);
        int n = 0;
        while (n < 400 && side(b, d)) {
            n++;
        }
        return n;
    }

    int drop(int i) {
        Box b = box(i).copy();
        int n = 0;
        while (!held(b, b.x, b.y)) {
            b.y--;
            n++;
            if (b.y < -40) {
                return -1;
            }
        }
        return n;
    }

    int look(int x, int y) {
        arg(in(x, 0, 383) && in(y, 0, 223));
        for (Box b : s.boxes) {
            if (x >= b.x && y >= b.y && x - b.x < b.w && y - b.y < b.h) {
                return 100 + s.boxes.indexOf(b);
            }
        }
        for (Lift l : s.lifts) {
            if (y + 1 == l.y && x >= l.x && x - l.x < l.w) {
                return 200 + s.lifts.indexOf(l);
            }
        }
        return s.tiles[x / 16][y / 16];
    }

    int ray(int x, int y, int direction) {
        arg(in(x, 0, 383) && in(y, 0, 223) && in(direction, 0, 3));
        int n = 0;
        while (true) {
            if (y < 0 || y > 223) {
                return -1;
            }
            if (firm(x, y) || slope(x, y) && y < surface(x, y)) {
                return n;
            }
            n++;
            switch (direction) {
                case 0 -> x++;
                case 1 -> y++;
                case 2 -> x--;
                default -> y--;
            }
        }
    }

    int predict(int i, int keys, int ticks, int what) {
        box(i);
        arg(in(keys, 0, 15) && in(ticks, 1, 40) && in(what, 0, 6));
        State now = s;
        s = s.copy();
        box(i).keys = keys;
        for (int n = 0; n < ticks; n++) {
            run();
        }
        int answer = number(box(i), what);
        s = now;
        return answer;
    }

    int apex(int i, int keys, int ticks) {
        int best = box(i).y;
        arg(in(keys, 0, 15) && in(ticks, 1, 40));
        for (int n = 1; n <= ticks; n++) {
            best = Math.max(best, predict(i, keys, n, 1));
        }
        return best;
    }

    int statistic(int i, int what) {
        Box b = box(i);
        arg(in(what, 0, 6));
        return b.stat[what];
    }

    float meanMoves(int i) {
        Box b = box(i);
        if (b.ticks == 0) {
            throw new ArithmeticException();
        }
        return (float) b.stat[4] / b.ticks;
    }

    void append(char c) {
        state(text.length() < 40);
        text += c;
    }

    int readTiles(int c, int r) {
        String t = text;
        text = "";
        index(in(c, 0, 23) && in(r, 0, 13));
        fault = t.isEmpty() ? 0 : -1;
        for (int i = t.length() - 1; i >= 0; i--) {
            if (i >= 24 || ".#=/\\i><^xo".indexOf(t.charAt(i)) < 0) {
                fault = i;
            }
        }
        arg(fault == -1);
        state(c + t.length() <= 24);
        State now = s.copy();
        for (int i = 0; i < t.length(); i++) {
            s.tiles[c + i][r] = ".#=/\\i><^xo".indexOf(t.charAt(i));
        }
        if (anyBlocked()) {
            s = now;
            throw new IllegalStateException();
        }
        past.clear();
        return t.length();
    }

    /** The fault position by its definition: the shortest beginning that no text can continue ends behind it. */
    private static int inputFault(String t) {
        String command = "[nlrjdLRD][0-9]{1,2}";
        for (int n = 1; n <= t.length(); n++) {
            if (!t.substring(0, n).matches("(" + command + ")*([nlrjdLRD][0-9]{0,2})?")) {
                return n - 1;
            }
        }
        return t.matches("(" + command + ")+") ? -1 : t.length();
    }

    int play(int i) {
        String t = text;
        text = "";
        box(i);
        fault = inputFault(t);
        arg(fault == -1);
        List<int[]> commands = new ArrayList<>();
        int total = 0;
        for (String command : t.split("(?=[a-zA-Z])")) {
            int keys = new int[] {0, 1, 2, 4, 8, 5, 6, 12}["nlrjdLRD".indexOf(command.charAt(0))];
            int ticks = Integer.parseInt(command.substring(1));
            commands.add(new int[] {keys, ticks});
            total += ticks;
        }
        if (total > 200) {
            throw new UnsupportedOperationException();
        }
        for (int[] command : commands) {
            box(i).keys = command[0];
            for (int n = 0; n < command[1]; n++) {
                pass();
            }
        }
        return total;
    }

    int faultPosition() {
        return fault;
    }

    void save() {
        saved = s.copy();
        savedSettings = settings.clone();
    }

    void restore() {
        state(saved != null);
        s = saved.copy();
        settings = savedSettings.clone();
        past.clear();
    }
}
