import java.lang.reflect.InvocationTargetException;
import java.lang.reflect.Method;
import java.util.ArrayList;
import java.util.List;
import java.util.Map;
import java.util.TreeMap;

/** Runs of calls, drawn from numbered seeds, on a SunHouse and on Plain: both must answer the same. */
public final class RandomRuns {
    private static final Map<String, Method> SUN = methods(SunHouse.class);
    private static final Map<String, Method> PLAIN = methods(Plain.class);

    private long seed;
    private SunHouse sun;
    private Plain plain;
    private int calls;
    private final List<String> log = new ArrayList<>();
    private final Map<String, Integer> seen = new TreeMap<>();
    private int wrong;

    private static Map<String, Method> methods(Class<?> c) {
        Map<String, Method> r = new TreeMap<>();
        for (Method m : c.getDeclaredMethods()) {
            if (c != SunHouse.class || java.lang.reflect.Modifier.isPublic(m.getModifiers())) {
                m.setAccessible(true);
                r.put(m.getName() + m.getParameterCount(), m);
            }
        }
        return r;
    }

    public static void main(String[] args) {
        int runs = args.length > 0 ? Integer.parseInt(args[0]) : 400;
        int first = args.length > 1 ? Integer.parseInt(args[1]) : 1;
        RandomRuns r = new RandomRuns();
        for (int k = first; k < first + runs && r.wrong < 5; k++) {
            r.run(k);
        }
        if (args.length > 2) {
            r.seen.forEach((what, n) -> System.out.println(what + " " + n));
        }
        System.out.println("RandomRuns: " + (r.wrong == 0 ? runs + " runs agree" : r.wrong + " runs differ"));
        System.exit(r.wrong == 0 ? 0 : 1);
    }

    // ---- chance

    private int next(int n) {
        seed = seed * 6364136223846793005L + 1442695040888963407L;
        return (int) ((seed >>> 33) % n);
    }

    private boolean in(int n) {
        return next(n) == 0;
    }

    /** Mostly low .. high, now and then just beyond or far off. */
    private int near(int low, int high) {
        if (in(25)) {
            int[] odd = {low - 1, high + 1, low - 2, high + 2, Integer.MIN_VALUE, Integer.MAX_VALUE, -1};
            return odd[next(odd.length)];
        }
        if (in(8)) {
            return in(2) ? low : high;
        }
        return low + next(high - low + 1);
    }

    // ---- calls

    private long call(String name, Object... args) {
        calls++;
        String a = run(SUN, sun, name, args);
        String b = run(PLAIN, plain, name, args);
        StringBuilder told = new StringBuilder(name).append('(');
        for (Object o : args) {
            told.append(told.charAt(told.length() - 1) == '(' ? "" : ", ").append(o);
        }
        log.add(told.append(") = ").append(a).toString());
        boolean number = a.matches("-?\\d+");
        String kind = !number ? a : a.startsWith("-") && a.length() < 4 ? a : "answers";
        seen.merge(name + " " + kind, 1, Integer::sum);
        if (!a.equals(b)) {
            throw new IllegalStateException(a + " but " + b);
        }
        return number ? Long.parseLong(a) : 0;
    }

    private static String run(Map<String, Method> methods, Object on, String name, Object[] args) {
        try {
            Object r = methods.get(name + args.length).invoke(on, args);
            return String.valueOf(((Number) r).longValue());
        } catch (InvocationTargetException e) {
            Throwable t = e.getCause();
            if (t instanceof Error) {
                throw (Error) t;
            }
            return "throws." + t.getClass().getSimpleName();
        } catch (IllegalAccessException e) {
            throw new AssertionError(e);
        }
    }

    private void run(int number) {
        seed = number * 7919L + 17;
        next(5);
        sun = new SunHouse();
        plain = new Plain();
        calls = 0;
        log.clear();
        try {
            int budget = 300 + next(212);
            for (int k = 0; k < 3 && calls < 250 && (k == 0 || plain.s.parts.size() < 8); k++) {
                tellText(0);
            }
            while (calls < budget - 130) {
                act();
            }
        } catch (IllegalStateException e) {
            wrong++;
            System.out.println("run " + number + ": " + e.getMessage());
            for (String line : log.subList(Math.max(0, log.size() - 12), log.size())) {
                System.out.println("    " + line);
            }
            System.out.println("    parts:");
            for (Plain.Part p : plain.s.parts) {
                StringBuilder b = new StringBuilder("      " + p.kind);
                for (int[] q : p.points) {
                    b.append(' ').append(q[0]).append('/').append(q[1]);
                }
                System.out.println(b + " " + p.groups + p.diode + java.util.Arrays.toString(p.setting) + p.dead);
            }
        }
    }

    // ---- texts

    private void tellText(int d) {
        String t = text();
        if (t.length() > 120) {
            t = t.substring(0, in(6) ? 120 : t.lastIndexOf(';', 119) + 1);
        }
        if (in(4)) {
            t = spoilt(t);
        }
        call("row", d, 0, t.length());
        for (int i = 0; i < t.length(); i++) {
            call("put", d, i, (int) t.charAt(i));
        }
        call("text", d);
    }

    private String spoilt(String t) {
        if (t.isEmpty()) {
            return t;
        }
        int i = next(t.length());
        String signs = "0123456789/; []crfb,x";
        switch (next(4)) {
            case 0: return t.substring(0, i) + t.substring(i + 1);
            case 1: return t.substring(0, i);
            case 2: return t.substring(0, i) + signs.charAt(next(signs.length())) + t.substring(i);
            default: return t.substring(0, i) + signs.charAt(next(signs.length())) + t.substring(i + 1);
        }
    }

    private String text() {
        StringBuilder b = new StringBuilder();
        List<Integer> cells = new ArrayList<>();
        List<Integer> rows = new ArrayList<>();
        List<Integer> fields = new ArrayList<>();
        for (int i = 0; i < plain.s.parts.size(); i++) {
            if (plain.p(i).in < 0) {
                (plain.p(i).kind == 0 ? cells : plain.p(i).kind == 1 ? rows : plain.p(i).kind == 2 ? fields
                    : new ArrayList<Integer>()).add(i);
            }
        }
        int n = plain.s.parts.size();
        int statements = 1 + next(14);
        for (int k = 0; k < statements && b.length() < 115; k++) {
            int what = next(10);
            if (what < 5 || cells.isEmpty()) {
                b.append(curve());
                cells.add(n);
            } else if (what < 8) {
                b.append(row(cells));
                rows.add(n);
            } else if (what == 8) {
                b.append(field(cells, rows));
                fields.add(n);
            } else {
                List<Integer> from = !fields.isEmpty() ? fields : !rows.isEmpty() ? rows : cells;
                b.append('b').append(pick(from)).append(';');
            }
            n++;
        }
        return b.toString();
    }

    private int pick(List<Integer> from) {
        if (from.isEmpty() || in(40)) {
            return next(60);
        }
        int i = next(from.size());
        return in(60) ? from.get(i) : from.remove(i);
    }

    private String curve() {
        int points = in(3) ? 2 + next(5) : 2 + next(2);
        int push = 0;
        int current = points - 1 + next(in(3) ? 101 - points : 12);
        StringBuilder b = new StringBuilder("c0/" + current);
        for (int i = 1; i < points; i++) {
            push += 1 + next(Math.max(1, (in(20) ? 70 : 60) / points));
            // now and then it falls too late, or stays level: no CURVE
            int fall = in(60) ? 0 : 1 + next(Math.max(1, current - (points - 1 - i)));
            current = i == points - 1 ? 0 : Math.max(0, current - fall);
            b.append(' ').append(Math.min(push, 99)).append('/').append(current);
        }
        return b.append(';').toString();
    }

    private String row(List<Integer> cells) {
        StringBuilder b = new StringBuilder("r");
        int groups = 1 + next(3);
        for (int g = 0; g < groups && (g == 0 || !cells.isEmpty()); g++) {
            b.append(g > 0 ? " " : "");
            if (in(2)) {
                b.append('[').append(pick(cells));
                while (in(2) && !cells.isEmpty()) {
                    b.append(' ').append(pick(cells));
                }
                b.append(']');
            } else {
                b.append(pick(cells));
            }
        }
        return b.append(';').toString();
    }

    private String field(List<Integer> cells, List<Integer> rows) {
        StringBuilder b = new StringBuilder("f");
        int n = 1 + next(4);
        for (int i = 0; i < n; i++) {
            List<Integer> from = !rows.isEmpty() && !in(3) ? rows : cells;
            if (i > 0 && from.isEmpty()) {
                break;
            }
            b.append(i > 0 ? " " : "").append(pick(from));
        }
        return b.append(';').toString();
    }

    // ---- other calls

    private int part() {
        int n = plain.s.parts.size();
        if (n == 0 || in(20)) {
            return near(0, 40);
        }
        // later PARTS are the larger ones
        return in(2) ? next(n) : n - 1 - next((n + 2) / 3);
    }

    private int partOf(int kind) {
        for (int k = 0; k < 12 && !in(30); k++) {
            int p = part();
            if (!plain.no(p) && plain.p(p).kind == kind) {
                return p;
            }
        }
        return part();
    }

    private void act() {
        switch (next(24)) {
            case 0: if (in(3)) { tellText(next(3)); } else { call("count", near(0, 8)); } break;
            case 1: call("about", part(), near(0, 4)); break;
            case 2: call("point", partOf(0), near(0, 5), near(0, 1)); break;
            case 3: case 4: settings(); break;
            case 5: call("dead", partOf(0), in(3)); break;
            case 6: curves(); break;
            case 7: case 8: call("hump", part(), near(-1, 4)); call("best", part(), near(0, 2)); break;
            case 9: call("held", partOf(1), in(3) ? near(0, 99) : next(20), near(0, 2)); break;
            case 10: case 11: boxes(); break;
            case 12: case 13: roofs(); break;
            case 14: skies(); break;
            case 15: case 16: days(); break;
            case 17: washings(); break;
            case 18: partings(); break;
            case 19: stores(); break;
            case 20: losses(); break;
            case 21: faults(); break;
            case 22: images(); break;
            default: shelves(); break;
        }
    }

    private void settings() {
        int what = near(0, 3);
        int most = what < 0 || what > 3 ? 100 : new int[] {100, 50, 50, 40}[what];
        call("set", partOf(0), what, near(0, most));
    }

    private void curves() {
        int p = part();
        call("push", p, in(3) ? near(0, 999) : next(30));
        call("current", p, in(3) ? near(-50, 999) : next(80) - 25);
    }

    private void boxes() {
        int p = partOf(3);
        if (in(3)) {
            int what = near(0, 1);
            call("box", p, what, what == 0 ? near(0, in(3) ? 500 : 60) : near(1, 40));
        }
        call("seek", p, near(1, in(3) ? 100 : 10));
        call("led", p, near(0, in(2) ? 500 : 60), near(0, 200));
    }

    private void roofs() {
        call("lies", partOf(0), place(), place() + (in(2) ? 101 * next(4) : 0));
        call("wall", near(0, 9), near(0, 19), near(0, 11), near(0, 30));
        call("sun", near(0, 11), near(0, 7), near(0, 30));
        call("lit", partOf(0), near(0, 11));
    }

    private int place() {
        return in(20) ? near(0, 1911) : 100 * near(0, 19) + near(0, 11);
    }

    private void skies() {
        int d = next(4) + 4;
        int sort = near(0, 2);
        int n = in(5) ? near(0, 120) : 10 + next(20);
        call("row", d, sort, n);
        for (int i = 0; i < n && i < 30; i++) {
            int[] odd = {-128, -32768, Integer.MIN_VALUE, -1, 101, 127, -127, Integer.MAX_VALUE, -2000000000};
            call("put", d, i, in(3) ? odd[next(odd.length)] : next(101));
        }
        call("sky", in(10) ? near(0, 7) : d);
    }

    private void days() {
        int day = in(3) ? near(0, 9) : next(2);
        call("strength", day, near(0, 11));
        call("hour", part(), day, near(0, 11));
        if (in(2)) {
            call("day", part(), day);
        }
    }

    private void washings() {
        int d = next(4) + 4;
        int n = in(5) ? near(0, 32) : 1 + next(12);
        call("row", d, in(9) ? 0 : 1, n);
        for (int i = 0; i < n && i < 40; i++) {
            call("put", d, i, in(60) ? near(0, 999) : in(2) ? 100 : next(1000));
        }
        int price = in(3) ? next(20) * 10 : in(4) ? 9999 : next(300);
        int told = in(15) ? near(0, 209999) : 10000 * next(21) + price;
        call("wash", d, told);
        for (int i = -1; i < 5; i++) {
            call("washed", d, told, i);
        }
        call("washed", in(2) ? d : near(0, 7), told, near(-1, 30));
    }

    private void partings() {
        int d = next(4) + 4;
        int n = in(12) ? near(2, 8) : 2 + next(4);
        call("row", d, in(15) ? 1 : 0, n);
        for (int i = 0; i < n && i < 40; i++) {
            int p = partOf(0);
            for (int k = 0; k < 9 && taken(d, i, p); k++) {
                p = partOf(0);
            }
            call("put", d, i, p);
        }
        call("parting", d, near(0, 1));
        call("parting", d, 1 - next(2));
    }

    private boolean taken(int d, int upTo, int p) {
        if (plain.rowRefused(d, -1) != 0) {
            return false;
        }
        for (int i = 0; i < upTo && i < plain.elements(d).length; i++) {
            if (plain.element(d, i) == p) {
                return true;
            }
        }
        return false;
    }

    private void stores() {
        call("room", near(0, 30));
        for (int h = 0; h < 12; h++) {
            if (in(2)) {
                call("trade", in(30) ? near(0, 11) : h, in(30) ? near(0, 2099) : 100 * next(21) + next(in(2) ? 4 : 100));
            }
        }
        for (int h = -1; h < 12; h++) {
            call("sells", in(30) ? near(-1, 11) : h);
        }
    }

    private void losses() {
        int p = part();
        call("without", p, near(0, 15));
        call("loss", p, near(0, 3), in(2));
    }

    private void faults() {
        int d = next(4) + 4;
        int p = part();
        call("faults", p);
        int pairs = in(8) ? near(0, 21) : next(3);
        call("row", d, in(15) ? 1 : 0, in(12) ? 2 * pairs - 1 : 2 * pairs);
        // half the time as measured with one FAULT or other, so that something fits
        List<int[]> t = plain.no(p) ? null
            : plain.tables(p, plain.faultsOf(p).get(next(plain.faultsOf(p).size())));
        for (int i = 0; i < pairs && i < 20; i++) {
            int u = in(4) ? next(256) - 128 : next(60);
            call("put", d, 2 * i, u);
            call("put", d, 2 * i + 1, t == null || in(9) ? next(20) : Plain.currentBy(t, u));
        }
        for (int i = -1; i < 4; i++) {
            call("fits", p, d, i);
        }
        call("fits", p, in(2) ? d : near(0, 7), near(-1, 20));
        call("look", p, in(5) ? near(0, 7) : d);
    }

    private void images() {
        call(in(2) ? "image" : "restore");
    }

    private void shelves() {
        int d = near(0, 7);
        call("keep", d, near(0, 1), part());
        call("weight", in(2) ? d : near(0, 7));
        call("toss", in(2) ? d : near(0, 7));
        int e = near(0, 7);
        if (in(2)) {
            call("row", e, near(0, 2), in(2) ? near(0, 120) : near(-1, 9));
            call("put", e, near(0, 9), in(2) ? near(-128, 127) : (int) seed);
        }
        call("copy", near(0, 7), near(0, 9), e, near(0, 9), near(0, 12));
        call("copy", e, near(0, 5), e, near(0, 5), near(0, 6));
        call("element", in(2) ? e : near(0, 7), near(0, 9));
    }
}
