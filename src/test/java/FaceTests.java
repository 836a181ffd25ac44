import java.io.IOException;
import java.lang.reflect.Array;
import java.lang.reflect.Constructor;
import java.lang.reflect.Field;
import java.lang.reflect.Method;
import java.lang.reflect.Modifier;
import java.nio.file.Files;
import java.nio.file.Path;
import java.util.ArrayDeque;
import java.util.ArrayList;
import java.util.Deque;
import java.util.IdentityHashMap;
import java.util.List;
import java.util.Map;
import java.util.TreeSet;
import java.util.regex.Matcher;
import java.util.regex.Pattern;

/**
 * What the document says of an object as a whole: its face to the letter, 512 calls of any one kind, houses that know
 * nothing of one another; and that all of a house is made when it is made, so that many have their place in one room.
 */
public final class FaceTests {
    private static final Pattern METHOD = Pattern.compile("public (\\w+) (\\w+)\\(([^)]*)\\)(?: throws ([\\w, ]+))?;");

    /** A room is some 600,000 objects and 7.3 million fields and elements: 200 houses shall find place in it. */
    private static final int MOST_OBJECTS = 600_000 / 200;
    private static final int MOST_ELEMENTS = 7_300_000 / 200;

    private static final String TEXT = "c0/9 20/8 30/0;c0/6 25/0;c0/8 20/0;r0 [1];f3 2;b4;";

    public static void main(String[] args) throws IOException, IllegalAccessException {
        face(Files.readAllLines(Path.of(args[0])));
        roomOfOneHouse();
        nothingMadeByCalls();
        sameAnswersUpTo512();
        housesApart();
        sameCallsSameAnswers();
        Calls.end("FaceTests");
    }

    // ---- the face

    private static void face(List<String> document) {
        TreeSet<String> told = new TreeSet<>();
        int first = document.indexOf("public final class SunHouse {");
        for (int i = first + 1; first >= 0 && !document.get(i).equals("}"); i++) {
            Matcher m = METHOD.matcher(document.get(i).trim());
            if (m.matches()) {
                told.add(said(m.group(1), m.group(2), typesOf(m.group(3)), m.group(4)));
            }
        }
        Calls.check("the public face", "how many methods the document tells of", told.size(), 43 - 1);
        TreeSet<String> there = new TreeSet<>();
        for (Method m : SunHouse.class.getDeclaredMethods()) {
            if (!Modifier.isPrivate(m.getModifiers())) {
                Calls.check("the public face", "modifiers of " + m.getName(), m.getModifiers(), Modifier.PUBLIC);
                there.add(said(m.getReturnType().getSimpleName(), m.getName(), names(m.getParameterTypes()),
                    m.getExceptionTypes().length == 0 ? null : names(m.getExceptionTypes())));
            }
        }
        for (String method : told) {
            Calls.check("the public face", method + " is there", there.contains(method) ? 1 : 0, 1);
        }
        for (String method : there) {
            Calls.check("the public face", method + " is told of", told.contains(method) ? 1 : 0, 1);
        }
        classItself();
    }

    private static void classItself() {
        Calls.check("the public face", "a public final class", SunHouse.class.getModifiers(),
            Modifier.PUBLIC | Modifier.FINAL);
        Calls.check("the public face", "under no class", SunHouse.class.getSuperclass() == Object.class ? 1 : 0, 1);
        Calls.check("the public face", "of no interface", SunHouse.class.getInterfaces().length, 0);
        Calls.check("the public face", "in no package", SunHouse.class.getPackageName().length(), 0);
        Constructor<?>[] made = SunHouse.class.getDeclaredConstructors();
        Calls.check("the public face", "constructors", made.length, 1);
        Calls.check("the public face", "is it public", made[0].getModifiers(), Modifier.PUBLIC);
        Calls.check("the public face", "its numbers", made[0].getParameterCount(), 0);
        for (Field f : SunHouse.class.getDeclaredFields()) {
            Calls.check("the public face", f.getName() + " is private", f.getModifiers() & Modifier.PRIVATE,
                Modifier.PRIVATE);
        }
        for (Class<?> c : SunHouse.class.getDeclaredClasses()) {
            Calls.check("the public face", c.getName() + " is seen from outside",
                c.getModifiers() & (Modifier.PUBLIC | Modifier.PROTECTED), 0);
        }
    }

    private static String said(String type, String name, String types, String thrown) {
        return type + " " + name + "(" + types + ")" + (thrown == null ? "" : " throws " + thrown);
    }

    /** "int d, boolean is" is "int, boolean". */
    private static String typesOf(String told) {
        return told.replaceAll("(\\w+) \\w+", "$1");
    }

    private static String names(Class<?>[] types) {
        List<String> r = new ArrayList<>();
        for (Class<?> c : types) {
            r.add(c.getSimpleName());
        }
        return String.join(", ", r);
    }

    // ---- the room

    /** All that can be come to from a house, itself too; its static constants are none of it. */
    private static Map<Object, Boolean> allOf(SunHouse house) throws IllegalAccessException {
        Map<Object, Boolean> known = new IdentityHashMap<>();
        Deque<Object> open = new ArrayDeque<>();
        open.add(house);
        while (!open.isEmpty()) {
            Object o = open.poll();
            if (known.put(o, true) != null || o.getClass().isArray() && o.getClass().getComponentType().isPrimitive()) {
                continue;
            }
            if (o.getClass().isArray()) {
                for (int i = 0; i < Array.getLength(o); i++) {
                    addTo(open, Array.get(o, i));
                }
                continue;
            }
            for (Field f : o.getClass().getDeclaredFields()) {
                if (!Modifier.isStatic(f.getModifiers()) && !f.getType().isPrimitive()) {
                    f.setAccessible(true);
                    addTo(open, f.get(o));
                }
            }
        }
        return known;
    }

    private static void addTo(Deque<Object> open, Object o) {
        if (o != null) {
            open.add(o);
        }
    }

    private static long elementsOf(Map<Object, Boolean> all) {
        long sum = 0;
        for (Object o : all.keySet()) {
            sum += o.getClass().isArray() ? Array.getLength(o) : o.getClass().getDeclaredFields().length;
        }
        return sum;
    }

    private static void roomOfOneHouse() throws IllegalAccessException {
        Map<Object, Boolean> all = allOf(new SunHouse());
        Calls.check("a room", all.size() + " objects are too many", all.size() > MOST_OBJECTS ? 1 : 0, 0);
        Calls.check("a room", elementsOf(all) + " elements are too many", elementsOf(all) > MOST_ELEMENTS ? 1 : 0, 0);
    }

    /** Behind calls of every kind a house is of the same objects as at first. */
    private static void nothingMadeByCalls() throws IllegalAccessException {
        Calls x = new Calls("calls make nothing");
        Map<Object, Boolean> before = allOf(x.house());
        tellAll(x);
        for (String call : QUESTIONS) {
            x.tell(call);
        }
        x.tell("image", "restore", "copy 0 0 3 0 2", "keep 6 1 4", "keep 6 0 0", "text 0", "row 3 2 120");
        Map<Object, Boolean> behind = allOf(x.house());
        Calls.check("calls make nothing", "how many objects", behind.size(), before.size());
        int kept = 0;
        for (Object o : before.keySet()) {
            kept += behind.containsKey(o) ? 1 : 0;
        }
        Calls.check("calls make nothing", "how many of them are the first ones", kept, before.size());
    }

    // ---- 512 calls

    /** Calls that ask and change nothing, the dear ones among them. */
    private static final String[] QUESTIONS = {"about 4 1", "point 0 1 0", "push 4 3", "current 4 9", "best 4 0",
        "hump 4 0", "held 3 5 0", "led 5 300 200", "lit 0 1", "strength 0 1", "hour 4 0 1", "day 4 0", "wash 1 100020",
        "washed 1 100020 0", "parting 2 1", "sells -1", "sells 2", "without 4 3", "loss 4 0 true", "loss 4 1 false",
        "faults 4", "fits 4 3 -1", "fits 4 3 1", "look 4 3", "count 1", "element 0 1", "weight 4", "toss 4"};

    private static void tellAll(Calls x) {
        x.text(TEXT);
        x.tell("set 0 0 80", "set 1 3 9", "set 2 1 5", "lies 0 101 303", "wall 0 1 1 5", "sun 1 1 10", "room 5",
            "trade 0 1002", "trade 1 309", "trade 2 405", "keep 4 1 4");
        x.lay(0, 0, 90, -128, 50);
        x.tell("sky 0");
        x.lay(1, 1, 100, 100, 100, 200, 10);
        x.lay(2, 0, 2, 1, 0);
        x.lay(3, 0, 30, 0);
    }

    private static void sameAnswersUpTo512() {
        for (String call : QUESTIONS) {
            Calls x = new Calls("512 calls");
            tellAll(x);
            long first = x.answer(call);
            while (x.calls() < 511) {
                x.due(call, first);
            }
            x.due("the last of 512", first, call);
        }
        Calls x = new Calls("512 calls that change much");
        for (int k = 1; k <= 512; k++) {
            x.due("room " + k % 31, (k - 1) % 31);
        }
    }

    // ---- houses apart

    private static final String[] ONE = {"row 0 0 9", "put 0 0 99", "put 0 1 48", "put 0 2 47", "put 0 3 57", "put 0 4 32",
        "put 0 5 57", "put 0 6 47", "put 0 7 48", "put 0 8 59", "text 0", "set 0 0 50", "lies 0 0 101", "wall 0 0 0 3",
        "sun 0 0 10", "lit 0 0", "sky 0", "strength 0 0", "room 3", "trade 0 505", "sells 0", "image", "dead 0 true",
        "count 5", "restore", "count 5", "keep 1 1 0", "weight 1", "toss 1", "best 0 0", "day 0 0", "without 0 1"};
    private static final String[] OTHER = {"room 30", "trade 0 2099", "row 0 2 3", "put 0 0 -5", "sky 0", "wall 0 9 9 1",
        "sun 0 7 30", "image", "sells 0", "strength 0 0", "count 0", "best 0 0", "restore", "weight 1", "count 8",
        "row 1 1 2", "put 1 1 600", "wash 1 50010", "washed 1 50010 -1", "copy 0 0 0 1 2", "element 0 1", "restore",
        "sells -1", "trade 0 0", "room 0", "text 0", "keep 0 0 0", "lit 0 0", "toss 1", "count 6", "count 7", "sky 1"};

    private static long[] answers(Calls x, String[] told) {
        long[] r = new long[told.length];
        for (int i = 0; i < told.length; i++) {
            r[i] = x.answer(told[i]);
        }
        return r;
    }

    private static void housesApart() {
        long[] one = answers(new Calls("one house alone"), ONE);
        long[] other = answers(new Calls("the other alone"), OTHER);
        Calls x = new Calls("two houses in turn");
        Calls y = new Calls("two houses in turn");
        for (int i = 0; i < ONE.length; i++) {
            x.due(ONE[i], one[i]);
            y.due(OTHER[i], other[i]);
        }
    }

    private static void sameCallsSameAnswers() {
        long[] first = answers(new Calls("once"), ONE);
        Calls x = new Calls("the same calls, the same answers");
        for (int i = 0; i < ONE.length; i++) {
            x.due(ONE[i], first[i]);
        }
    }
}
