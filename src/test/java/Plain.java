import java.util.ArrayList;
import java.util.HashMap;
import java.util.List;
import java.util.Map;

/**
 * The document said over again in the plainest way, without regard to speed or memory, so that SunHouse can be
 * held against it: every call answers by itself, from what was told, and tries all there is to try.
 */
final class Plain {
    static final class Part {
        int kind;
        int in = -4;
        // a CELL
        List<int[]> points = new ArrayList<>();
        int[] setting = {100, 0, 0, 0};
        boolean dead;
        int[] box;
        // a ROW: its GROUPS; a FIELD, a BOX: one list
        List<List<Integer>> groups = new ArrayList<>();
        List<Boolean> diode = new ArrayList<>();
        // a BOX
        int u;
        int step = 5;
        int way = 1;
        Integer ahead;

        Part copy() {
            Part p = new Part();
            p.kind = kind;
            p.in = in;
            p.points = points;
            p.setting = setting.clone();
            p.dead = dead;
            p.box = box;
            p.groups = groups;
            p.diode = diode;
            p.u = u;
            p.step = step;
            p.way = way;
            p.ahead = ahead;
            return p;
        }
    }

    static final class State {
        List<Part> parts = new ArrayList<>();
        int[][] walls = new int[10][3];
        int[][] sun = new int[12][2];
        long[] sky = new long[0];
        long gap;
        int[][] trade = new int[12][2];
        int room;

        State copy() {
            State s = new State();
            for (Part p : parts) {
                s.parts.add(p.copy());
            }
            for (int i = 0; i < 10; i++) {
                s.walls[i] = walls[i].clone();
            }
            for (int i = 0; i < 12; i++) {
                s.sun[i] = sun[i].clone();
                s.trade[i] = trade[i].clone();
            }
            s.sky = sky.clone();
            s.gap = gap;
            s.room = room;
            return s;
        }
    }

    /** What stands in place of what is told: LIGHT in an HOUR, CAUSES taken off, one FAULT. */
    static final class Else {
        int day = -1;
        int hour = -1;
        int off;
        int deadCell = -1;
        int brokenRow = -1;
        int brokenGroup = -1;
    }

    static final Else NOTHING_ELSE = new Else();

    State s = new State();
    State image;
    Object[] shelf = new Object[8];

    static final class RowOf {
        int sort;
        int[] v;
    }

    static final class Kept {
        int weight;
        int toss;
    }

    // ---- what a PART gives

    Part p(int n) {
        return s.parts.get(n);
    }

    boolean no(int n) {
        return n < 0 || n >= s.parts.size();
    }

    int inner(int n) {
        return p(n).kind == 3 ? p(n).groups.get(0).get(0) : n;
    }

    int[][] now(int n, Else e) {
        Part c = p(n);
        int[] t = c.setting.clone();
        if (e.hour >= 0) {
            t[0] = litOf(n, e.hour) * strengthOf(e.day, e.hour) / 100;
        }
        for (int k = 0; k < 4; k++) {
            if ((e.off & 1 << k) != 0) {
                t[k] = k == 0 ? 100 : 0;
            }
        }
        int share = t[0] * (100 - t[1]) * (100 - t[2]) / 10000;
        if (c.dead || e.deadCell == n) {
            share = 0;
        }
        int[][] r = new int[c.points.size()][2];
        for (int i = 0; i < r.length; i++) {
            int push = c.points.get(i)[0];
            r[i][0] = push - push * t[3] / 100;
            r[i][1] = c.points.get(i)[1] * share / 100;
        }
        return r;
    }

    int cellPush(int n, int c, Else e) {
        int[][] q = now(n, e);
        if (c > q[0][1]) {
            return Math.max(-20, -2 * (c - q[0][1]));
        }
        for (int i = q.length - 1; i > 0; i--) {
            if (q[i][1] <= c && c <= q[i - 1][1]) {
                if (q[i][1] == q[i - 1][1]) {
                    return q[i][0];
                }
                return q[i][0] - (q[i][0] - q[i - 1][0]) * (c - q[i][1]) / (q[i - 1][1] - q[i][1]);
            }
        }
        throw new AssertionError("no pair of POINTS");
    }

    int linePush(int n, int c, Else e) {
        if (p(n).kind == 0) {
            return cellPush(n, c, e);
        }
        int sum = 0;
        for (int g = 0; g < p(n).groups.size(); g++) {
            int group = 0;
            for (int cell : p(n).groups.get(g)) {
                group += cellPush(cell, c, e);
            }
            boolean broken = e.brokenRow == n && e.brokenGroup == g;
            sum += p(n).diode.get(g) && !broken ? Math.max(-1, group) : group;
        }
        return sum;
    }

    /** PUSHES of a line at 0 .. 99, for many u at once. */
    int[] lineTable(int n, Else e) {
        int[] t = new int[100];
        for (int c = 0; c < 100; c++) {
            t[c] = linePush(n, c, e);
        }
        return t;
    }

    List<int[]> tables(int n, Else e) {
        List<int[]> r = new ArrayList<>();
        int m = inner(n);
        if (p(m).kind == 2) {
            for (int line : p(m).groups.get(0)) {
                r.add(lineTable(line, e));
            }
        } else {
            r.add(lineTable(m, e));
        }
        return r;
    }

    static int currentBy(List<int[]> tables, int u) {
        int sum = 0;
        for (int[] t : tables) {
            for (int c = 99; c >= 0; c--) {
                if (t[c] >= u) {
                    sum += c;
                    break;
                }
            }
        }
        return sum;
    }

    static int[] powers(List<int[]> tables) {
        int[] r = new int[501];
        for (int u = 0; u <= 500; u++) {
            r[u] = u * currentBy(tables, u);
        }
        return r;
    }

    static int bestU(int[] powers) {
        int b = 0;
        for (int u = 1; u <= 500; u++) {
            if (powers[u] > powers[b]) {
                b = u;
            }
        }
        return b;
    }

    int bestPower(int n, Else e) {
        int[] w = powers(tables(n, e));
        return w[bestU(w)];
    }

    List<Integer> cellsOf(int n) {
        List<Integer> r = new ArrayList<>();
        int m = inner(n);
        if (p(m).kind == 0) {
            r.add(m);
        } else if (p(m).kind == 1) {
            for (List<Integer> g : p(m).groups) {
                r.addAll(g);
            }
        } else {
            for (int line : p(m).groups.get(0)) {
                r.addAll(cellsOf(line));
            }
        }
        return r;
    }

    List<int[]> diodesOf(int n) {
        List<int[]> r = new ArrayList<>();
        int m = inner(n);
        if (p(m).kind == 1) {
            for (int g = 0; g < p(m).groups.size(); g++) {
                if (p(m).diode.get(g)) {
                    r.add(new int[] {m, g});
                }
            }
        } else if (p(m).kind == 2) {
            for (int line : p(m).groups.get(0)) {
                r.addAll(diodesOf(line));
            }
        }
        return r;
    }

    // ---- the calls

    static final class Fault extends RuntimeException {
        final int answer;

        Fault(int answer) {
            super(null, null, false, false);
            this.answer = answer;
        }
    }

    /** Descends through the text with a place, and throws at the first byte that cannot be. */
    final class Text {
        final int[] b;
        int at;
        List<Object[]> told = new ArrayList<>();

        Text(int[] b) {
            this.b = b;
        }

        int here() {
            return at < b.length ? b[at] : 999;
        }

        void want(boolean fine) {
            if (!fine) {
                throw new Fault(-1000 - at);
            }
        }

        boolean skip(char c) {
            if (here() == c) {
                at++;
                return true;
            }
            return false;
        }

        int number() {
            want(here() >= '0' && here() <= '9');
            int v = b[at++] - '0';
            if (v != 0 && here() >= '0' && here() <= '9') {
                v = v * 10 + b[at++] - '0';
            }
            return v;
        }

        List<Integer> numbers() {
            List<Integer> r = new ArrayList<>();
            do {
                r.add(number());
            } while (skip(' '));
            return r;
        }

        void shape() {
            do {
                int start = at;
                char sign = (char) here();
                want(here() >= 0 && "crfb".indexOf(sign) >= 0);
                at++;
                Part part = new Part();
                part.kind = "crfb".indexOf(sign);
                if (sign == 'c') {
                    do {
                        int push = number();
                        want(here() == '/');
                        at++;
                        part.points.add(new int[] {push, number()});
                    } while (skip(' '));
                } else if (sign == 'r') {
                    do {
                        boolean diode = skip('[');
                        part.diode.add(diode);
                        part.groups.add(diode ? numbers() : List.of(number()));
                        if (diode) {
                            want(here() == ']');
                            at++;
                        }
                    } while (skip(' '));
                } else {
                    part.groups.add(sign == 'f' ? numbers() : List.of(number()));
                }
                want(here() == ';');
                at++;
                told.add(new Object[] {start, part});
            } while (at < b.length);
        }
    }

    boolean curve(List<int[]> q) {
        if (q.size() < 2 || q.size() > 6 || q.get(0)[0] != 0 || q.get(q.size() - 1)[1] != 0 || q.get(0)[1] == 0) {
            return false;
        }
        for (int i = 0; i < q.size(); i++) {
            if (q.get(i)[0] > 60 || i > 0 && (q.get(i)[0] <= q.get(i - 1)[0] || q.get(i)[1] >= q.get(i - 1)[1])) {
                return false;
            }
        }
        return true;
    }

    boolean asTold(State t, Part part) {
        if (t.parts.size() == 40) {
            return false;
        }
        if (part.kind == 0) {
            return curve(part.points);
        }
        List<Integer> all = new ArrayList<>();
        for (List<Integer> g : part.groups) {
            all.addAll(g);
        }
        if (part.kind == 1 && all.size() > 8 || part.kind == 2 && all.size() > 6) {
            return false;
        }
        for (int i = 0; i < all.size(); i++) {
            int n = all.get(i);
            if (n >= t.parts.size() || t.parts.get(n).in >= 0 || all.indexOf(n) < i) {
                return false;
            }
            int kind = t.parts.get(n).kind;
            if (kind == 3 || part.kind == 1 && kind != 0 || part.kind == 2 && kind == 2) {
                return false;
            }
        }
        return true;
    }

    int rowRefused(int d, int sort) {
        if (d < 0 || d > 7) {
            return -1;
        }
        if (shelf[d] == null) {
            return -11;
        }
        if (!(shelf[d] instanceof RowOf) || sort >= 0 && ((RowOf) shelf[d]).sort != sort) {
            return -12;
        }
        return 0;
    }

    int[] elements(int d) {
        return ((RowOf) shelf[d]).v;
    }

    int text(int d) {
        int refused = rowRefused(d, 0);
        if (refused != 0) {
            return refused;
        }
        Text t = new Text(elements(d));
        try {
            t.shape();
        } catch (Fault f) {
            return f.answer;
        }
        State next = s.copy();
        for (Object[] told : t.told) {
            Part part = (Part) told[1];
            if (!asTold(next, part)) {
                return -2000 - (Integer) told[0];
            }
            for (List<Integer> g : part.groups) {
                for (int n : g) {
                    next.parts.get(n).in = next.parts.size();
                }
            }
            next.parts.add(part);
        }
        s = next;
        return t.told.size();
    }

    int about(int part, int what) {
        if (no(part) || what < 0 || what > 4) {
            return -1;
        }
        switch (what) {
            case 0: return p(part).kind;
            case 1: return cellsOf(part).size();
            case 2: return diodesOf(part).size();
            case 3:
                return p(part).kind == 0 ? p(part).points.size()
                    : p(part).kind == 1 ? p(part).groups.size()
                    : p(part).groups.get(0).size();
            default: return p(part).in;
        }
    }

    int point(int part, int i, int what) {
        if (no(part) || i < 0 || what < 0 || what > 1) {
            return -1;
        }
        if (p(part).kind != 0) {
            return -3;
        }
        return i >= p(part).points.size() ? -1 : now(part, NOTHING_ELSE)[i][what];
    }

    int set(int part, int what, int v) {
        if (no(part) || what < 0 || what > 3 || v < 0 || v > new int[] {100, 50, 50, 40}[what]) {
            return -1;
        }
        if (p(part).kind != 0) {
            return -3;
        }
        int was = p(part).setting[what];
        p(part).setting[what] = v;
        return was;
    }

    int dead(int part, boolean is) {
        if (no(part)) {
            return -1;
        }
        if (p(part).kind != 0) {
            return -3;
        }
        int r = p(part).dead == is ? 0 : 1;
        p(part).dead = is;
        return r;
    }

    long push(int part, int c) {
        if (no(part) || c < 0 || c > 999) {
            throw new IllegalArgumentException();
        }
        int m = inner(part);
        if (p(m).kind != 2) {
            return linePush(m, c, NOTHING_ELSE);
        }
        List<int[]> t = tables(m, NOTHING_ELSE);
        for (int u = 999; u >= 0; u--) {
            if (currentBy(t, u) >= c) {
                return u;
            }
        }
        return -1;
    }

    int current(int part, int u) {
        return no(part) || u < -50 || u > 999 ? -1 : currentBy(tables(part, NOTHING_ELSE), u);
    }

    int best(int part, int what) {
        if (no(part) || what < 0 || what > 2) {
            return -1;
        }
        int[] w = powers(tables(part, NOTHING_ELSE));
        int u = bestU(w);
        return what == 0 ? w[u] : what == 1 ? u : current(part, u);
    }

    int hump(int part, int i) {
        if (no(part) || i < -1) {
            return -1;
        }
        int[] w = powers(tables(part, NOTHING_ELSE));
        List<Integer> humps = new ArrayList<>();
        for (int u = 1; u <= 499; u++) {
            int later = 0;
            for (int v = u + 1; v <= 500; v++) {
                if (w[v] != w[u]) {
                    later = w[v];
                    break;
                }
            }
            if (w[u] > w[u - 1] && w[u] > later) {
                humps.add(u);
            }
        }
        return i < 0 ? humps.size() : i < humps.size() ? humps.get(i) : -4;
    }

    int held(int part, int c, int what) {
        if (no(part) || c < 0 || c > 99 || what < 0 || what > 2) {
            return -1;
        }
        if (p(part).kind != 1) {
            return -3;
        }
        int dimmest = -1;
        int passes = 0;
        int hot = 0;
        for (int g = 0; g < p(part).groups.size(); g++) {
            int sum = 0;
            for (int cell : p(part).groups.get(g)) {
                int push = cellPush(cell, c, NOTHING_ELSE);
                sum += push;
                if (dimmest < 0 || push < cellPush(dimmest, c, NOTHING_ELSE)) {
                    dimmest = cell;
                }
                if (c > now(cell, NOTHING_ELSE)[0][1]) {
                    hot++;
                }
            }
            if (p(part).diode.get(g) && sum < -1) {
                passes++;
            }
        }
        return what == 0 ? dimmest : what == 1 ? passes : hot;
    }

    int box(int part, int what, int v) {
        if (no(part) || what < 0 || what > 1 || what == 0 && (v < 0 || v > 500) || what == 1 && (v < 1 || v > 40)) {
            return -1;
        }
        Part b = p(part);
        if (b.kind != 3) {
            return -3;
        }
        int was = what == 0 ? b.u : b.step;
        if (what == 0) {
            b.u = v;
        } else {
            b.step = v;
        }
        b.way = 1;
        b.ahead = null;
        return was;
    }

    static void step(Part b, int[] w) {
        int power = w[b.u];
        if (b.ahead != null && power < b.ahead) {
            b.way = -b.way;
        }
        b.ahead = power;
        int to = b.u + b.way * b.step;
        b.u = Math.max(0, Math.min(500, to));
        if (to != b.u) {
            b.way = -b.way;
        }
    }

    int seek(int part, int n) {
        if (no(part) || n < 1 || n > 100) {
            return -1;
        }
        if (p(part).kind != 3) {
            return -3;
        }
        int[] w = powers(tables(part, NOTHING_ELSE));
        for (int i = 0; i < n; i++) {
            step(p(part), w);
        }
        return p(part).u;
    }

    int led(int part, int u, int n) {
        if (no(part) || u < 0 || u > 500 || n < 0 || n > 200) {
            return -1;
        }
        if (p(part).kind != 3) {
            return -3;
        }
        int[] w = powers(tables(part, NOTHING_ELSE));
        Part b = new Part();
        b.u = u;
        b.step = p(part).step;
        for (int i = 0; i <= n; i++) {
            if (Math.abs(b.u - bestU(w)) <= b.step) {
                return i;
            }
            step(b, w);
        }
        return -4;
    }

    int lies(int part, int from, int to) {
        if (no(part) || from < 0 || to < 0 || from / 100 > 19 || to / 100 > 19 || from % 100 > 11 || to % 100 > 11
            || from / 100 > to / 100 || from % 100 > to % 100) {
            return -1;
        }
        if (p(part).kind != 0) {
            return -3;
        }
        p(part).box = new int[] {from / 100, from % 100, to / 100, to % 100};
        return (to / 100 - from / 100 + 1) * (to % 100 - from % 100 + 1);
    }

    int wall(int k, int x, int y, int height) {
        if (k < 0 || k > 9 || x < 0 || x > 19 || y < 0 || y > 11 || height < 0 || height > 30) {
            return -1;
        }
        int was = s.walls[k][2];
        s.walls[k] = new int[] {x, y, height};
        return was;
    }

    int sun(int hour, int direction, int length) {
        if (hour < 0 || hour > 11 || direction < 0 || direction > 7 || length < 0 || length > 30) {
            return -1;
        }
        int was = s.sun[hour][0] * 100 + s.sun[hour][1];
        s.sun[hour] = new int[] {direction, length};
        return was;
    }

    boolean shaded(int x, int y, int hour) {
        for (int[] w : s.walls) {
            if (w[2] == 0) {
                continue;
            }
            int far = w[2] * s.sun[hour][1] / 10;
            for (int k = 0; k <= far; k++) {
                int dx = 0;
                int dy = 0;
                switch (s.sun[hour][0]) {
                    case 0: dx = 1; break;
                    case 1: dx = 1; dy = 1; break;
                    case 2: dy = 1; break;
                    case 3: dx = -1; dy = 1; break;
                    case 4: dx = -1; break;
                    case 5: dx = -1; dy = -1; break;
                    case 6: dy = -1; break;
                    default: dx = 1; dy = -1; break;
                }
                if (w[0] + k * dx == x && w[1] + k * dy == y) {
                    return true;
                }
            }
        }
        return false;
    }

    int litOf(int cell, int hour) {
        int[] b = p(cell).box;
        if (b == null) {
            return 100;
        }
        int all = 0;
        int bright = 0;
        for (int x = b[0]; x <= b[2]; x++) {
            for (int y = b[1]; y <= b[3]; y++) {
                all++;
                if (!shaded(x, y, hour)) {
                    bright++;
                }
            }
        }
        return bright * 100 / all;
    }

    int lit(int part, int hour) {
        if (no(part) || hour < 0 || hour > 11) {
            return -1;
        }
        return p(part).kind != 0 ? -3 : litOf(part, hour);
    }

    int sky(int d) {
        int refused = rowRefused(d, -1);
        if (refused != 0) {
            return refused;
        }
        s.sky = new long[elements(d).length];
        for (int i = 0; i < s.sky.length; i++) {
            s.sky[i] = elements(d)[i];
        }
        s.gap = new long[] {-128, -32768, -2147483648L}[((RowOf) shelf[d]).sort];
        return s.sky.length;
    }

    int strengthOf(int day, int hour) {
        int i = 12 * day + hour;
        if (i >= s.sky.length) {
            return 0;
        }
        long v = s.sky[i];
        if (v == s.gap) {
            List<Long> near = new ArrayList<>();
            for (int k = i; k >= 0; k--) {
                if (s.sky[k] != s.gap) {
                    near.add(s.sky[k]);
                    break;
                }
            }
            for (int k = i; k < s.sky.length; k++) {
                if (s.sky[k] != s.gap) {
                    near.add(s.sky[k]);
                    break;
                }
            }
            long sum = 0;
            for (long q : near) {
                sum += q;
            }
            v = near.isEmpty() ? 0 : sum / near.size();
        }
        return (int) Math.max(0, Math.min(100, v));
    }

    int strength(int day, int hour) {
        return day < 0 || day > 9 || hour < 0 || hour > 11 ? -1 : strengthOf(day, hour);
    }

    int hour(int part, int day, int hour) {
        if (no(part) || day < 0 || day > 9 || hour < 0 || hour > 11) {
            return -1;
        }
        Else e = new Else();
        e.day = day;
        e.hour = hour;
        return bestPower(part, e);
    }

    int day(int part, int day) {
        if (no(part) || day < 0 || day > 9) {
            return -1;
        }
        int sum = 0;
        for (int h = 0; h < 12; h++) {
            sum += hour(part, day, h);
        }
        return sum;
    }

    /** The plan by DAYS to go and DIRT there is: what is made, and the days, as the document orders plans. */
    private static final class Plan {
        int made;
        List<Integer> days = new ArrayList<>();

        boolean betterThan(Plan o) {
            if (made != o.made) {
                return made > o.made;
            }
            if (days.size() != o.days.size()) {
                return days.size() < o.days.size();
            }
            for (int i = 0; i < days.size(); i++) {
                if (!days.get(i).equals(o.days.get(i))) {
                    return days.get(i) > o.days.get(i);
                }
            }
            return false;
        }
    }

    private Plan planWash(int[] gain, int rate, int price, int day, int dirt, Map<Integer, Plan> known) {
        if (day == gain.length) {
            return new Plan();
        }
        Plan had = known.get(day * 100 + dirt);
        if (had != null) {
            return had;
        }
        Plan best = null;
        for (int w = 0; w < 2; w++) {
            int x = w == 1 ? 0 : dirt;
            Plan rest = planWash(gain, rate, price, day + 1, Math.min(50, x + rate), known);
            Plan mine = new Plan();
            mine.made = gain[day] * (100 - x) / 100 - (w == 1 ? price : 0) + rest.made;
            if (w == 1) {
                mine.days.add(day);
            }
            mine.days.addAll(rest.days);
            if (best == null || mine.betterThan(best)) {
                best = mine;
            }
        }
        known.put(day * 100 + dirt, best);
        return best;
    }

    int washRefused(int d, int told) {
        if (told < 0 || told / 10000 > 20) {
            return -1;
        }
        int refused = rowRefused(d, 1);
        if (refused != 0) {
            return refused;
        }
        int[] v = elements(d);
        boolean fine = v.length >= 1 && v.length <= 30;
        for (int g : v) {
            fine &= g >= 0 && g <= 999;
        }
        return fine ? 0 : -13;
    }

    int wash(int d, int told) {
        int refused = washRefused(d, told);
        return refused != 0 ? refused
            : planWash(elements(d), told / 10000, told % 10000, 0, 0, new HashMap<>()).made;
    }

    int washed(int d, int told, int i) {
        if (i < -1) {
            return -1;
        }
        int refused = washRefused(d, told);
        if (refused != 0) {
            return refused;
        }
        List<Integer> days = planWash(elements(d), told / 10000, told % 10000, 0, 0, new HashMap<>()).days;
        return i < 0 ? days.size() : i < days.size() ? days.get(i) : -4;
    }

    int parting(int d, int what) {
        if (what < 0 || what > 1) {
            return -1;
        }
        int refused = rowRefused(d, 0);
        if (refused != 0) {
            return refused;
        }
        int[] v = elements(d);
        if (v.length < 2 || v.length > 8) {
            return -13;
        }
        for (int i = 0; i < v.length; i++) {
            if (no(v[i]) || p(v[i]).kind != 0) {
                return -13;
            }
            for (int k = 0; k < i; k++) {
                if (v[k] == v[i]) {
                    return -13;
                }
            }
        }
        int most = -1;
        int set = -1;
        for (int bits = 1; bits < 1 << v.length; bits++) {
            if ((bits & 1) != 0) {
                continue;
            }
            int[][] t = new int[2][100];
            for (int i = 0; i < v.length; i++) {
                for (int c = 0; c < 100; c++) {
                    t[bits >> i & 1][c] += cellPush(v[i], c, NOTHING_ELSE);
                }
            }
            int[] w = powers(List.of(t[0], t[1]));
            if (w[bestU(w)] > most) {
                most = w[bestU(w)];
                set = bits;
            }
        }
        return what == 0 ? most : set;
    }

    int trade(int hour, int told) {
        if (hour < 0 || hour > 11 || told < 0 || told / 100 > 20) {
            return -1;
        }
        int was = s.trade[hour][0] * 100 + s.trade[hour][1];
        s.trade[hour] = new int[] {told / 100, told % 100};
        return was;
    }

    int room(int n) {
        if (n < 0 || n > 30) {
            return -1;
        }
        int was = s.room;
        s.room = n;
        return was;
    }

    /** The most from an HOUR on, and behind it the sales that make it, the least first. */
    private int[] sales(int hour, int stored, Map<Integer, int[]> known) {
        if (hour == 12) {
            return new int[13];
        }
        int key = hour * 100 + stored;
        if (known.containsKey(key)) {
            return known.get(key);
        }
        int there = stored + s.trade[hour][0];
        int[] best = null;
        for (int sold = 0; sold <= there; sold++) {
            if (there - sold > s.room) {
                continue;
            }
            int[] rest = sales(hour + 1, there - sold, known).clone();
            rest[12] += sold * s.trade[hour][1];
            rest[hour] = sold;
            if (best == null || rest[12] > best[12]) {
                best = rest;
            }
        }
        known.put(key, best);
        return best;
    }

    int sells(int hour) {
        if (hour < -1 || hour > 11) {
            return -1;
        }
        int[] r = sales(0, 0, new HashMap<>());
        return hour < 0 ? r[12] : r[hour];
    }

    int withoutSet(int part, int causes) {
        Else e = new Else();
        e.off = causes;
        return bestPower(part, e);
    }

    int without(int part, int causes) {
        return no(part) || causes < 0 || causes > 15 ? -1 : withoutSet(part, causes);
    }

    long loss(int part, int cause, boolean all) {
        if (no(part) || cause < 0 || cause > 3) {
            throw new IllegalArgumentException();
        }
        int[] w = new int[16];
        for (int causes = 0; causes < 16; causes++) {
            w[causes] = withoutSet(part, causes);
        }
        if (!all) {
            int ahead = 0;
            for (int k = 0; k < cause; k++) {
                ahead |= 1 << k;
            }
            return w[ahead | 1 << cause] - w[ahead];
        }
        long sum = 0;
        int orders = 0;
        for (int code = 0; code < 256; code++) {
            int[] order = {code & 3, code >> 2 & 3, code >> 4 & 3, code >> 6 & 3};
            int seen = 0;
            for (int k : order) {
                seen |= 1 << k;
            }
            if (seen != 15) {
                continue;
            }
            orders++;
            int off = 0;
            for (int k : order) {
                if (k == cause) {
                    sum += w[off | 1 << k] - w[off];
                }
                off |= 1 << k;
            }
        }
        if (orders != 24) {
            throw new AssertionError("orders " + orders);
        }
        return sum;
    }

    List<Else> faultsOf(int part) {
        List<Else> r = new ArrayList<>();
        r.add(NOTHING_ELSE);
        for (int cell : cellsOf(part)) {
            Else e = new Else();
            e.deadCell = cell;
            r.add(e);
        }
        for (int[] diode : diodesOf(part)) {
            Else e = new Else();
            e.brokenRow = diode[0];
            e.brokenGroup = diode[1];
            r.add(e);
        }
        return r;
    }

    int faults(int part) {
        return no(part) ? -1 : faultsOf(part).size();
    }

    int fitRefused(int part, int d) {
        if (no(part)) {
            return -1;
        }
        int refused = rowRefused(d, 0);
        if (refused != 0) {
            return refused;
        }
        return elements(d).length % 2 != 0 || elements(d).length > 40 ? -13 : 0;
    }

    List<Integer> fitting(int part, int d) {
        List<Integer> r = new ArrayList<>();
        List<Else> all = faultsOf(part);
        for (int f = 0; f < all.size(); f++) {
            List<int[]> t = tables(part, all.get(f));
            boolean fine = true;
            for (int i = 0; i < elements(d).length; i += 2) {
                fine &= currentBy(t, elements(d)[i]) == elements(d)[i + 1];
            }
            if (fine) {
                r.add(f);
            }
        }
        return r;
    }

    int fits(int part, int d, int i) {
        if (i < -1) {
            return -1;
        }
        int refused = fitRefused(part, d);
        if (refused != 0) {
            return refused;
        }
        List<Integer> f = fitting(part, d);
        return i < 0 ? f.size() : i < f.size() ? f.get(i) : -4;
    }

    int look(int part, int d) {
        int refused = fitRefused(part, d);
        if (refused != 0) {
            return refused;
        }
        List<Integer> f = fitting(part, d);
        if (f.isEmpty()) {
            return -4;
        }
        List<List<int[]>> tables = new ArrayList<>();
        for (int k : f) {
            tables.add(tables(part, faultsOf(part).get(k)));
        }
        int least = Integer.MAX_VALUE;
        int at = -1;
        for (int u = 0; u <= 120; u++) {
            Map<Integer, Integer> groups = new HashMap<>();
            for (List<int[]> t : tables) {
                groups.merge(currentBy(t, u), 1, Integer::sum);
            }
            int greatest = 0;
            for (int g : groups.values()) {
                greatest = Math.max(greatest, g);
            }
            if (greatest < least) {
                least = greatest;
                at = u;
            }
        }
        return at;
    }

    int image() {
        image = s.copy();
        return s.parts.size();
    }

    int restore() {
        if (image == null) {
            return -3;
        }
        s = image.copy();
        return s.parts.size();
    }

    int count(int what) {
        int n = 0;
        switch (what) {
            case 0: return s.parts.size();
            case 1: case 2: case 3: case 4:
                for (Part q : s.parts) {
                    n += q.kind == what - 1 ? 1 : 0;
                }
                return n;
            case 5:
                for (Part q : s.parts) {
                    n += q.dead ? 1 : 0;
                }
                return n;
            case 6:
                for (int[] w : s.walls) {
                    n += w[2] > 0 ? 1 : 0;
                }
                return n;
            case 7: return s.sky.length;
            case 8: return s.room;
            default: return -1;
        }
    }

    int keep(int d, int what, int k) {
        if (d < 0 || d > 7 || what < 0 || what > 1 || what == 1 && no(k)) {
            return -1;
        }
        if (what == 0) {
            shelf[d] = null;
            return 0;
        }
        Kept kept = new Kept();
        Part part = p(k);
        int base = 10 + k;
        kept.weight = part.kind == 0 ? base + part.points.get(part.points.size() - 1)[0]
            : part.kind == 1 ? base + 10 * cellsOf(k).size()
            : part.kind == 2 ? 2 * (base + 10 * cellsOf(k).size())
            : base + part.step;
        int at0 = current(k, 0);
        kept.toss = part.kind == 3 || at0 == 0 ? -15 : part.kind == 2 ? 1000 + at0 : at0;
        shelf[d] = kept;
        return 0;
    }

    int row(int d, int sort, int n) {
        if (d < 0 || d > 7 || sort < 0 || sort > 2 || n > 120) {
            return -1;
        }
        if (n < 0) {
            return -14;
        }
        RowOf r = new RowOf();
        r.sort = sort;
        r.v = new int[n];
        shelf[d] = r;
        return 0;
    }

    int put(int d, int i, int v) {
        int refused = rowRefused(d, -1);
        if (refused != 0) {
            return refused;
        }
        RowOf r = (RowOf) shelf[d];
        if (i < 0 || i >= r.v.length) {
            return -13;
        }
        r.v[i] = r.sort == 0 ? (byte) v : r.sort == 1 ? (short) v : v;
        return 0;
    }

    long element(int d, int i) {
        if (d < 0 || d > 7) {
            throw new IllegalArgumentException();
        }
        if (rowRefused(d, -1) != 0 || i < 0 || i >= elements(d).length) {
            throw new IllegalStateException();
        }
        return elements(d)[i];
    }

    int copy(int d, int i, int e, int j, int n) {
        if (d < 0 || d > 7 || e < 0 || e > 7) {
            return -1;
        }
        if (shelf[d] == null || shelf[e] == null) {
            return -11;
        }
        if (!(shelf[d] instanceof RowOf) || !(shelf[e] instanceof RowOf)
            || ((RowOf) shelf[d]).sort != ((RowOf) shelf[e]).sort) {
            return -12;
        }
        if (n < 0 || i < 0 || j < 0 || i > elements(d).length - n || j > elements(e).length - n) {
            return -13;
        }
        int[] from = elements(d).clone();
        for (int k = 0; k < n; k++) {
            elements(e)[j + k] = from[i + k];
        }
        return n;
    }

    int partRefused(int d) {
        return d < 0 || d > 7 ? -1 : shelf[d] == null ? -11 : shelf[d] instanceof RowOf ? -12 : 0;
    }

    int weight(int d) {
        int refused = partRefused(d);
        return refused != 0 ? refused : ((Kept) shelf[d]).weight;
    }

    int toss(int d) {
        int refused = partRefused(d);
        return refused != 0 ? refused : ((Kept) shelf[d]).toss;
    }
}
