import java.util.ArrayList;
import java.util.HashMap;
import java.util.List;
import java.util.Map;

/**
 * Each number that a call is told: the last value that is taken and the first that isn't, at both ends, and ints as
 * small and as great as they can be; each refusal of each call, several that hold at the same time too; and that a
 * refused call changes nothing.
 */
public final class RefusalTests {
    private static final long ARGUMENT = Calls.ARGUMENT;
    private static final long STATE = Calls.STATE;

    /** 3 is a ROW of 0 and, under a DIODE, 1; 4 a FIELD of 3 and 2, 5 a BOX over it; 8 a BOX over 7; 10 a ROW of 9. */
    private static final String TEXT =
        "c0/9 20/8 30/0;c0/6 25/0;c0/8 20/0;r0 [1];f3 2;b4;c0/5 10/0;c0/4 12/0;b7;c0/3 9/0;r9;";
    private static final int PARTS = 11;
    private static final int[] CELLS = {0, 1, 2, 6, 7, 9};

    // ---- a house in which everything is told, and THE IMAGE is of another state

    private static Calls house(String name, String... behind) {
        Calls x = new Calls(name);
        x.text(TEXT);
        x.tell("set 0 0 91", "set 1 3 4", "dead 2 true", "lies 2 0 101", "box 5 1 9", "seek 5 2", "box 8 0 100");
        x.tell("wall 3 4 4 2", "wall 9 0 1 3", "sun 5 5 5", "trade 7 309", "room 2");
        x.lay(0, 0, 7, -128, 9);
        x.tell("sky 0", "image");
        x.tell("set 0 0 100", "set 1 3 0", "dead 2 false", "wall 3 4 4 0", "sun 5 0 0", "trade 7 0", "room 5");
        x.tell("set 6 0 90", "set 6 3 8", "set 7 1 5", "set 9 2 7", "dead 9 true", "lies 0 101 303", "lies 1 500 711");
        x.tell("wall 0 1 1 5", "wall 9 6 2 30", "sun 0 0 10", "sun 11 3 30", "trade 0 1002", "trade 1 309", "trade 2 405");
        x.tell("box 5 1 7", "seek 5 3", "box 8 0 30", "seek 8 1");
        x.lay(0, 0, 90, -128, -128, 40, 127, -1, -128, 5, 6, 7, 8, 9, 10, 11);
        x.tell("sky 0");
        x.lay(0, 0, 0, 1, 2);
        x.lay(1, 1, 100, 100, 100, 200, 10);
        x.lay(2, 2, 5, -6);
        x.tell("keep 3 1 4", "keep 4 0 0", "keep 6 1 5");
        // in the FIELD 0 and 2 give 8 each at PUSH 0: so it is without a FAULT, if 1 is DEAD, if its DIODE is BROKEN
        x.lay(5, 0, 0, 16);
        x.layText(7, "c0/1 1/0;");
        x.tell(behind);
        return x;
    }

    /** Every answer there is to have of a house; asking changes it. */
    private static List<Long> stateOf(Calls x) {
        List<Long> r = new ArrayList<>();
        for (String call : PROBES) {
            r.add(x.answer(call));
        }
        return r;
    }

    private static final List<String> PROBES = probes();

    private static List<String> probes() {
        List<String> r = new ArrayList<>();
        askAll(r, "count #", 9);
        for (int part = 0; part <= PARTS; part++) {
            for (int what : new int[] {0, 1, 4}) {
                r.add("about " + part + " " + what);
            }
        }
        askAll(r, "seek 5 #", 4);
        askAll(r, "seek 8 #", 4);
        askAll(r, "element 0 #", 4);
        askAll(r, "element 1 #", 6);
        askAll(r, "element 2 #", 3);
        askAll(r, "element 5 #", 3);
        askAll(r, "element 7 #", 10);
        askAll(r, "weight #", 8);
        askAll(r, "toss #", 8);
        askAll(r, "strength 0 #", 12);
        askAll(r, "strength 1 #", 3);
        askAll(r, "sells #", 4);
        askAll(r, "lit 0 #", 12);
        askAll(r, "lit 1 #", 12);
        askAll(r, "lit 2 #", 1);
        askSettings(r);
        r.add("restore");
        askAll(r, "count #", 9);
        askAll(r, "strength 0 #", 4);
        askAll(r, "lit 0 #", 1);
        askAll(r, "lit 2 #", 6);
        askSettings(r);
        return r;
    }

    private static void askAll(List<String> r, String call, int n) {
        for (int i = 0; i < n; i++) {
            r.add(call.replace("#", String.valueOf(i)));
        }
    }

    /** What only a call tells that lays another in its place. */
    private static void askSettings(List<String> r) {
        for (int cell : CELLS) {
            askAll(r, "set " + cell + " # 0", 4);
            r.add("dead " + cell + " false");
        }
        for (int box : new int[] {5, 8}) {
            r.add("box " + box + " 0 0");
            r.add("box " + box + " 1 1");
        }
        askAll(r, "sun # 0 0", 12);
        askAll(r, "trade # 0", 12);
        askAll(r, "wall # 0 0 0", 10);
        r.add("room 0");
    }

    private static final Map<String, List<Long>> KNOWN = new HashMap<>();

    private static void refused(long want, String call, String... behind) {
        Calls x = house("refused", behind);
        x.due(call, want);
        List<Long> untouched = KNOWN.get(String.join(",", behind));
        if (untouched == null) {
            untouched = stateOf(house("untouched", behind));
            KNOWN.put(String.join(",", behind), untouched);
        }
        List<Long> left = stateOf(x);
        for (int i = 0; i < left.size(); i++) {
            Calls.check("refused " + call + " changes nothing", PROBES.get(i), left.get(i), untouched.get(i));
        }
    }

    private static void taken(long want, String call, String... behind) {
        house("taken", behind).due(call, want);
    }

    // ---- ranges

    /** The number in place of # is from low to high; beyond it the call is refused. */
    private static void range(String call, int low, long atLow, int high, long atHigh, long refusal) {
        from(call, low, atLow, refusal);
        taken(atHigh, at(call, high));
        refused(refusal, at(call, high + 1));
        refused(refusal, at(call, Integer.MAX_VALUE));
    }

    /** The number in place of # is low at least. */
    private static void from(String call, int low, long atLow, long refusal) {
        taken(atLow, at(call, low));
        refused(refusal, at(call, low - 1));
        refused(refusal, at(call, Integer.MIN_VALUE));
    }

    private static String at(String call, int number) {
        return call.replace("#", String.valueOf(number));
    }

    private static void rangesOfParts() {
        range("text #", 0, -1000, 7, 1, -1);
        range("about # 0", 0, 0, 10, 1, -1);
        range("about 0 #", 0, 0, 4, 3, -1);
        range("point # 0 0", 0, 0, 10, -3, -1);
        range("point 0 # 0", 0, 0, 2, 30, -1);
        range("point 1 # 0", 0, 0, 1, 25, -1);
        range("point 0 1 #", 0, 20, 1, 8, -1);
        range("set # 0 0", 0, 100, 10, -3, -1);
        range("set 6 # 5", 0, 90, 3, 8, -1);
        range("set 6 0 #", 0, 90, 100, 90, -1);
        range("set 7 1 #", 0, 5, 50, 5, -1);
        range("set 9 2 #", 0, 7, 50, 7, -1);
        range("set 6 3 #", 0, 8, 40, 8, -1);
        range("dead # true", 0, 1, 10, -3, -1);
        range("dead # false", 0, 0, 10, -3, -1);
    }

    private static void rangesOfCurves() {
        range("push # 0", 0, 30, 10, 9, ARGUMENT);
        range("push 0 #", 0, 30, 999, -20, ARGUMENT);
        range("push 4 #", 0, 999, 999, -1, ARGUMENT);
        range("current # 0", 0, 9, 10, 0, -1);
        range("current 0 #", -50, 99, 999, 0, -1);
        range("current 4 #", -50, 198, 999, 0, -1);
        range("best # 0", 0, 160, 10, 0, -1);
        range("best 0 #", 0, 160, 2, 8, -1);
        range("hump # -1", 0, 3, 10, 0, -1);
        from("hump 0 #", -1, 3, -1);
        taken(27, "hump 0 2");
        taken(-4, "hump 0 3");
        taken(-4, at("hump 0 #", Integer.MAX_VALUE));
        range("held # 0 0", 0, -3, 10, 9, -1);
        range("held 3 # 2", 0, 0, 99, 2, -1);
        range("held 3 9 #", 0, 1, 2, 1, -1);
    }

    private static void rangesOfBoxes() {
        range("box # 0 0", 0, -3, 10, -3, -1);
        range("box 5 # 9", 0, 11, 1, 7, -1);
        range("box 5 0 #", 0, 11, 500, 11, -1);
        range("box 5 1 #", 1, 7, 40, 7, -1);
        range("seek # 1", 0, -3, 10, -3, -1);
        // BOX 8 over a CELL that gives nothing above 12: it goes from 35 to 500 in 93 steps, turns there, goes 6 back
        range("seek 8 #", 1, 40, 100, 470, -1);
        range("led # 0 0", 0, -3, 10, -3, -1);
        // BEST of BOX 8 is at 4: from 10 to 500 and back to 5
        range("led 8 # 0", 0, 0, 500, -4, -1);
        range("led 8 10 #", 0, -4, 200, 198, -1);
    }

    private static void rangesOfRoofs() {
        range("lies # 0 0", 0, 1, 10, -3, -1);
        range("lies 0 # 1911", 0, 240, 1911, 1, -1);
        range("lies 0 0 #", 0, 1, 1911, 240, -1);
        refusedPlaces();
        range("wall # 0 0 1", 0, 5, 9, 30, -1);
        range("wall 0 # 0 1", 0, 5, 19, 5, -1);
        range("wall 0 0 # 1", 0, 5, 11, 5, -1);
        range("wall 0 0 0 #", 0, 5, 30, 5, -1);
        range("sun # 0 0", 0, 10, 11, 330, -1);
        range("sun 0 # 0", 0, 10, 7, 10, -1);
        range("sun 0 0 #", 0, 10, 30, 10, -1);
        range("lit # 0", 0, 66, 10, -3, -1);
        range("lit 0 #", 0, 66, 11, 88, -1);
    }

    /** 100 x and y with x 0 .. 19, y 0 .. 11: between 11 and 100 there is no PLACE. */
    private static void refusedPlaces() {
        for (int x = 0; x < 20; x++) {
            taken(12, "lies 0 " + 100 * x + " " + (100 * x + 11));
            taken(1, "lies 0 " + (100 * x + 11) + " " + (100 * x + 11));
        }
        for (int place : new int[] {12, 99, 112, 199, 1812, 1899, 1912, 2000}) {
            refused(-1, "lies 0 0 " + place);
            refused(-1, "lies 0 " + place + " 1911");
            refused(-1, "lies 0 " + place + " " + place);
        }
        refused(-1, "lies 0 -1 -1");
        refused(-1, "lies 0 -100 0");
        refused(-1, "lies 0 100 99");
        refused(-1, "lies 0 100 11");
        refused(-1, "lies 0 101 200");
        refused(-1, "lies 0 1911 1910");
        refused(-1, "lies 0 1911 1811");
    }

    private static void rangesOfSkies() {
        range("sky #", 0, 3, 7, 9, -1);
        range("strength # 0", 0, 90, 9, 0, -1);
        range("strength 0 #", 0, 90, 11, 9, -1);
        // LIT 66 by 90: LIGHT 59, CURRENTS 5, 4, 0; in HOURS 1 .. 4 LIGHT 57, 57, 35, 88, then too little for any
        range("hour # 0 0", 0, 80, 10, 0, -1);
        range("hour 0 # 0", 0, 80, 9, 0, -1);
        range("hour 0 0 #", 0, 80, 11, 0, -1);
        range("day # 0", 0, 80 + 80 + 80 + 40 + 140, 10, 0, -1);
        range("day 0 #", 0, 80 + 80 + 80 + 40 + 140, 9, 0, -1);
    }

    private static void rangesOfPlans() {
        range("wash # 100020", 0, -12, 7, -12, -1);
        range("wash 1 #", 0, 510, 209999, 345, -1);
        range("washed # 100020 -1", 0, -12, 7, -12, -1);
        range("washed 1 # -1", 0, 0, 209999, 0, -1);
        from("washed 1 100020 #", -1, 1, -1);
        taken(3, "washed 1 100020 0");
        taken(-4, "washed 1 100020 1");
        taken(-4, at("washed 1 100020 #", Integer.MAX_VALUE));
        // at 19 the first gives 8, the two others 4
        range("parting # 0", 0, 228, 7, -13, -1);
        range("parting 0 #", 0, 228, 1, 6, -1);
        range("trade # 0", 0, 1002, 11, 0, -1);
        range("trade 0 #", 0, 1002, 2099, 1002, -1);
        range("room #", 0, 5, 30, 5, -1);
        range("sells #", -1, 102, 11, 0, -1);
        range("without # 15", 0, 160, 10, 0, -1);
        range("without 0 #", 0, 160, 15, 160, -1);
        range("loss # 0 false", 0, 0, 10, 0, ARGUMENT);
        range("loss # 0 true", 0, 0, 10, 0, ARGUMENT);
        // 12 with LIGHT 100, 10 with 90; PUSH 10 loses nothing by WARM 8
        range("loss 6 # false", 0, 2, 3, 0, ARGUMENT);
        range("loss 6 # true", 0, 48, 3, 0, ARGUMENT);
    }

    private static void rangesOfFaults() {
        range("faults #", 0, 2, 10, 2, -1);
        range("fits # 5 -1", 0, 0, 10, 0, -1);
        range("fits 4 # -1", 0, -13, 7, -13, -1);
        from("fits 4 5 #", -1, 3, -1);
        taken(0, "fits 4 5 0");
        taken(4, "fits 4 5 2");
        taken(-4, "fits 4 5 3");
        taken(-4, at("fits 4 5 #", Integer.MAX_VALUE));
        range("look # 5", 0, -4, 10, -4, -1);
        range("look 4 #", 0, -13, 7, -13, -1);
        range("count #", 0, 11, 8, 5, -1);
    }

    private static void rangesOfShelves() {
        range("keep # 1 0", 0, 0, 7, 0, -1);
        range("keep # 0 0", 0, 0, 7, 0, -1);
        range("keep 0 # 0", 0, 0, 1, 0, -1);
        range("keep 0 1 #", 0, 0, 10, 0, -1);
        range("row # 0 0", 0, 0, 7, 0, -1);
        range("row 0 # 1", 0, 0, 2, 0, -1);
        taken(0, "row 0 0 0");
        taken(0, "row 0 0 120");
        refused(-1, "row 0 0 121");
        refused(-1, at("row 0 0 #", Integer.MAX_VALUE));
        refused(-14, "row 0 0 -1");
        refused(-14, at("row 0 0 #", Integer.MIN_VALUE));
        range("put # 0 0", 0, 0, 7, 0, -1);
        range("put 0 # 5", 0, 0, 2, 0, -13);
        range("put 1 # 5", 0, 0, 4, 0, -13);
        range("put 2 # 5", 0, 0, 1, 0, -13);
        range("element # 0", 0, 0, 7, 'c', ARGUMENT);
        range("element 2 #", 0, 5, 1, -6, STATE);
        range("weight #", 0, -12, 7, -12, -1);
        range("toss #", 0, -12, 7, -12, -1);
    }

    private static void rangesOfCopies() {
        range("copy # 0 5 0 1", 0, 1, 7, 1, -1);
        range("copy 5 0 # 0 1", 0, 1, 7, 1, -1);
        range("copy 0 # 7 0 1", 0, 1, 2, 1, -13);
        range("copy 0 # 7 0 0", 0, 0, 3, 0, -13);
        range("copy 7 0 0 # 1", 0, 1, 2, 1, -13);
        range("copy 7 0 0 # 0", 0, 0, 3, 0, -13);
        range("copy 0 0 7 0 #", 0, 0, 3, 3, -13);
        range("copy 7 0 0 0 #", 0, 0, 3, 3, -13);
        range("copy 0 1 7 7 #", 0, 0, 2, 2, -13);
        range("copy 7 6 0 2 #", 0, 0, 1, 1, -13);
        // two numbers whose sum is no int
        refused(-13, "copy 0 1 7 1 " + Calls.GREATEST);
        refused(-13, "copy 0 " + Calls.GREATEST + " 7 0 " + Calls.GREATEST);
        refused(-13, "copy 0 0 7 " + Calls.GREATEST + " " + Calls.GREATEST);
        refused(-13, "copy 0 -1 7 0 1");
        refused(-13, "copy 0 -1 7 0 2");
        refused(-13, "copy 0 0 7 -1 2");
        refused(-13, "copy 0 3 7 0 -1");
        refused(-13, "copy 0 " + Calls.LEAST + " 7 0 " + Calls.LEAST);
    }

    /** Numbers that have no bound: any int is taken. */
    private static void anyNumber() {
        for (int v : new int[] {Integer.MIN_VALUE, -1, 0, 1, Integer.MAX_VALUE}) {
            taken(0, at("keep 0 0 #", v));
            taken(0, at("put 0 0 #", v));
            taken(0, at("put 1 0 #", v));
            taken(0, at("put 2 0 #", v));
        }
    }

    /** 40 PARTS, the last of them the one that is told. */
    private static Calls full(String name, String last) {
        Calls x = new Calls(name);
        String ten = "c0/1 1/0;c0/1 1/0;c0/1 1/0;c0/1 1/0;c0/1 1/0;c0/1 1/0;c0/1 1/0;c0/1 1/0;c0/1 1/0;c0/1 1/0;";
        x.layText(6, ten);
        x.tell("text 6", "text 6", "text 6");
        x.dueText(ten.substring(0, 81) + last, 10);
        x.lay(0, 0, 0, 1);
        x.lay(5, 0, 0, 1);
        return x;
    }

    private static void partsWhenFull() {
        Calls x = full("a CELL is number 39", "c0/9 9/0;");
        x.dueEach(0, "about 39 0", "point 39 0 0", "dead 39 false", "fits 39 5 -1", "keep 4 1 39");
        x.dueEach(1, "about 39 1", "hump 39 -1", "lies 39 1911 1911");
        x.due("hump 39 0", 4);
        x.dueEach(9, "push 39 0", "current 39 0", "toss 4");
        x.dueEach(100, "set 39 0 100", "lit 39 11");
        x.dueEach(-3, "held 39 0 0", "box 39 0 0", "seek 39 1", "led 39 0 0");
        x.dueEach(20, "best 39 0", "without 39 15");
        x.dueEach(0, "hour 39 9 11", "day 39 9", "loss 39 3 true", "loss 39 3 false");
        x.dueEach(2, "faults 39");
        x.due("weight 4", 10 + 39 + 9);
        x.lay(0, 0, 0, 39);
        x.due("parting 0 1", 2);
        x.lay(0, 0, 0, 40);
        x.due("parting 0 1", -13);
        x.dueEach(-1, "about 40 0", "point 40 0 0", "set 40 0 0", "dead 40 true", "current 40 0", "best 40 0",
            "hump 40 -1", "held 40 0 0", "box 40 0 0", "seek 40 1", "led 40 0 0", "lies 40 0 0", "lit 40 0",
            "hour 40 0 0", "day 40 0", "without 40 0", "faults 40", "fits 40 5 -1", "look 40 5", "keep 4 1 40");
        x.dueEach(ARGUMENT, "push 40 0", "loss 40 0 true", "loss 40 0 false");
    }

    private static void rowsAndBoxesWhenFull() {
        Calls x = full("a ROW is number 39", "r0;");
        x.due("about 39 0", 1);
        x.due("held 39 0 0", 0);
        x.due("held 40 0 0", -1);
        x = full("a FIELD is number 39", "f0;");
        x.due("about 39 0", 2);
        x.due("push 39 1", 0);
        x.due("push 40 1", ARGUMENT);
        x = full("a BOX is number 39", "b0;");
        x.due("about 39 0", 3);
        x.due("box 39 1 40", 5);
        x.due("seek 39 1", 40);
        x.due("led 39 0 0", 0);
        x.dueEach(-1, "box 40 1 40", "seek 40 1", "led 40 0 0");
    }

    /** A part that is not there in a house without any. */
    private static void noParts() {
        Calls x = new Calls("no PARTS");
        x.lay(5, 0, 0, 0);
        for (int part : new int[] {-1, 0, 39, Integer.MIN_VALUE, Integer.MAX_VALUE}) {
            for (String call : new String[] {"about # 0", "point # 0 0", "set # 0 0", "dead # true", "current # 0",
                "best # 0", "hump # -1", "held # 0 0", "box # 0 0", "seek # 1", "led # 0 0", "lies # 0 0", "lit # 0",
                "hour # 0 0", "day # 0", "without # 0", "faults #", "fits # 5 -1", "look # 5", "keep 4 1 #"}) {
                x.due(at(call, part), -1);
            }
            x.dueEach(ARGUMENT, at("push # 0", part), at("loss # 0 true", part));
        }
        x.due("parting 5 0", -13);
        x.due("weight 4", -11);
    }

    // ---- each refusal of each call

    /** 0 .. 3 is a CELL, a ROW, a FIELD, a BOX. */
    private static final int[] OF_KIND = {0, 3, 4, 5};

    private static void otherKinds() {
        for (int kind = 0; kind < 4; kind++) {
            int part = OF_KIND[kind];
            if (kind != 0) {
                for (String call : new String[] {"point # 0 0", "point # 1 1", "set # 0 0", "set # 0 100", "set # 1 50",
                    "set # 2 50", "set # 3 40", "dead # true", "dead # false", "lies # 0 0", "lies # 0 1911", "lit # 0",
                    "lit # 11"}) {
                    refused(-3, at(call, part));
                }
            }
            if (kind != 1) {
                refused(-3, at("held # 0 0", part));
                refused(-3, at("held # 99 2", part));
            }
            if (kind != 3) {
                for (String call : new String[] {"box # 0 0", "box # 0 500", "box # 1 1", "box # 1 40", "seek # 1",
                    "seek # 100", "led # 0 0", "led # 500 200"}) {
                    refused(-3, at(call, part));
                }
            }
        }
    }

    /** The first one of several: -1 ahead of -3. */
    private static void outOfRangeAheadOfOtherKinds() {
        for (String call : new String[] {"point 3 -1 0", "point 3 0 2", "point 3 0 -1", "point 5 -1 2", "set 3 -1 0",
            "set 3 4 0", "set 3 0 -1", "set 3 0 101", "set 4 1 51", "set 5 2 51", "set 3 3 41", "held 0 -1 0",
            "held 4 100 0", "held 5 0 3", "held 0 0 -1", "box 0 2 1", "box 3 -1 1", "box 4 0 501", "box 0 0 -1",
            "box 0 1 0", "box 0 1 41", "seek 0 0", "seek 3 101", "seek 4 -1", "led 0 -1 0", "led 3 501 0", "led 4 0 -1",
            "led 0 0 201", "lies 3 -1 0", "lies 4 12 1911", "lies 5 0 2000", "lies 3 100 0", "lies 3 1 0", "lit 3 -1",
            "lit 5 12"}) {
            refused(-1, call);
        }
    }

    /** SHELF 4 holds nothing, 3 a PART, 0 bytes, 1 shorts, 2 ints. */
    private static void otherShelves() {
        for (String call : new String[] {"text #", "sky #", "wash # 0", "washed # 0 -1", "washed # 0 0", "parting # 0",
            "parting # 1", "fits 4 # -1", "fits 4 # 0", "look 4 #", "put # 0 0", "copy # 0 0 0 1", "copy 0 0 # 0 1"}) {
            refused(-11, at(call, 4));
            refused(-12, at(call, 3));
        }
        refused(-11, "weight 4");
        refused(-11, "toss 4");
        for (int d : new int[] {0, 1, 2, 5, 7}) {
            refused(-12, at("weight #", d));
            refused(-12, at("toss #", d));
        }
        for (int d : new int[] {1, 2}) {
            for (String call : new String[] {"text #", "parting # 0", "fits 4 # -1", "look 4 #"}) {
                refused(-12, at(call, d));
            }
        }
        for (int d : new int[] {0, 2}) {
            refused(-12, at("wash # 0", d));
            refused(-12, at("washed # 0 0", d));
        }
        taken(3, "sky 0");
        taken(5, "sky 1");
        taken(2, "sky 2");
        refused(-15, "toss 6");
        refused(-15, "toss 4", "dead 0 true", "keep 4 1 0");
        refused(STATE, "element 4 0");
        refused(STATE, "element 3 0");
    }

    private static void copiesOfOtherSorts() {
        refused(-11, "copy 4 0 4 0 0");
        refused(-12, "copy 3 0 3 0 0");
        refused(-12, "copy 3 0 6 0 0");
        for (int d = 0; d < 3; d++) {
            for (int e = 0; e < 3; e++) {
                if (d == e) {
                    taken(1, "copy " + d + " 0 " + e + " 1 1");
                } else {
                    refused(-12, "copy " + d + " 0 " + e + " 0 1");
                }
            }
        }
    }

    /** -1 ahead of -11 and -12, and of what the ROW holds. */
    private static void outOfRangeAheadOfShelves() {
        for (int d : new int[] {4, 3, 0, 1, 2}) {
            for (String call : new String[] {"wash # -1", "wash # 210000", "washed # -1 0", "washed # 210000 0",
                "washed # 0 -2", "parting # -1", "parting # 2", "fits -1 # 0", "fits 11 # 0", "fits 4 # -2",
                "look -1 #", "look 11 #", "copy # 0 8 0 1", "copy -1 0 # 0 1", "keep # 1 11", "keep # 1 -1",
                "keep # 2 0", "keep # -1 0", "row # 3 -1", "row # -1 -1", "row # 3 121", "row # 0 121"}) {
                refused(-1, at(call, d));
            }
        }
        for (int d : new int[] {-1, 8}) {
            for (String call : new String[] {"wash # -1", "washed # -1 -2", "parting # 2", "fits 11 # -2", "look 11 #",
                "copy # 0 4 0 1", "copy 4 0 # 0 1", "copy # 0 # 0 -1", "copy 3 0 # 0 1", "put # -1 0", "row # 0 -1",
                "row # 3 121", "keep # 2 99", "keep # 0 0"}) {
                refused(-1, at(call, d));
            }
            refused(ARGUMENT, at("element # -1", d));
        }
    }

    /** -11 ahead of -12 ahead of -13 ahead of -14: as many as can hold at the same time. */
    private static void shelvesAheadOfPlaces() {
        refused(-11, "put 4 -1 0");
        refused(-12, "put 3 -1 0");
        refused(-12, "put 3 120 0");
        refused(-11, "copy 4 -1 3 0 1");
        refused(-11, "copy 3 0 4 0 -1");
        refused(-11, "copy 4 0 0 5 1");
        refused(-11, "copy 1 9 4 0 1");
        refused(-12, "copy 3 -1 0 0 1");
        refused(-12, "copy 0 0 3 0 -1");
        refused(-12, "copy 0 9 1 9 9");
        refused(-12, "copy 1 0 2 0 -1");
        refused(STATE, "element 4 -1");
        refused(STATE, "element 3 -1");
        // a ROW of another SORT whose size would not do either
        refused(-12, "wash 0 0", "row 0 0 0");
        refused(-12, "wash 0 0", "row 0 2 31");
        refused(-12, "parting 0 0", "row 0 1 0");
        refused(-12, "fits 4 0 0", "row 0 1 1");
        refused(-12, "look 4 0", "row 0 2 1");
        refused(-12, "text 0", "row 0 1 0");
    }

    /** -4 is the last of those that can hold: a place that isn't there, an odd size are told first. */
    private static void placesAheadOfNone() {
        refused(-13, "washed 0 0 30", "row 0 1 0");
        refused(-13, "washed 0 0 30", "row 0 1 31");
        refused(-13, "washed 1 0 30", "put 1 4 1000");
        refused(-4, "washed 1 0 30");
        refused(-13, "fits 4 5 99", "row 5 0 1");
        refused(-13, "fits 4 5 99", "row 5 0 42");
        refused(-4, "fits 4 5 99");
        refused(-13, "look 4 5", "row 5 0 3");
        refused(-4, "look 4 5", "put 5 1 77");
        refused(-4, "hump 4 99");
        refused(-4, "led 8 500 0");
        refused(-4, "about 5 4");
    }

    private static void refusedRows() {
        refused(-13, "wash 1 0", "row 1 1 0");
        taken(0, "wash 1 0", "row 1 1 1");
        taken(0, "wash 1 0", "row 1 1 30");
        refused(-13, "wash 1 0", "row 1 1 31");
        refused(-13, "wash 1 0", "row 1 1 120");
        refused(-13, "wash 1 0", "put 1 0 -1");
        refused(-13, "wash 1 0", "put 1 4 1000");
        refused(-13, "wash 1 0", "put 1 2 32767");
        refused(-13, "wash 1 0", "put 1 2 32768");
        taken(310 + 999 - 100 + 200, "wash 1 0", "put 1 2 999");
        taken(410, "wash 1 0", "put 1 2 0");
        refused(-13, "parting 0 0", "row 0 0 0");
        refused(-13, "parting 0 0", "row 0 0 1");
        taken(2, "parting 0 1", "row 0 0 2", "put 0 1 1");
        refused(-13, "parting 0 0", "row 0 0 9");
        refused(-13, "parting 0 0", "put 0 1 0");
        refused(-13, "parting 0 0", "put 0 2 1");
        refused(-13, "parting 0 0", "put 0 0 3");
        refused(-13, "parting 0 0", "put 0 2 3");
        refused(-13, "parting 0 0", "put 0 2 4");
        refused(-13, "parting 0 0", "put 0 2 5");
        refused(-13, "parting 0 0", "put 0 2 10");
        refused(-13, "parting 0 0", "put 0 2 11");
        refused(-13, "parting 0 0", "put 0 2 -1");
        refused(-13, "parting 0 0", "put 0 2 -128");
        refused(-13, "parting 0 0", "put 0 2 127");
        for (String call : new String[] {"fits 4 5 -1", "look 4 5"}) {
            refused(-13, call, "row 5 0 1");
            refused(-13, call, "row 5 0 39");
            refused(-13, call, "row 5 0 41");
            refused(-13, call, "row 5 0 42");
            refused(-13, call, "row 5 0 120");
        }
        taken(5, "fits 4 5 -1", "row 5 0 0");
        taken(0, "fits 4 5 -1", "row 5 0 40");
        taken(-4, "look 4 5", "row 5 0 40");
    }

    /** A TEXT that is refused, whatever PARTS it told ahead of its FAULT, leaves all as it was. */
    private static void refusedTexts() {
        String[] texts = {"", "c0/1 1/0", "c0/1 1/0;x", "c0/1 1/0;r6;b11;r6;", "r6 11;", "f10 8;", "b6;b12;", "f10 6;f10;",
            "c0/9 9/0;c0/9 9/9;", "r6 6;", "b5;"};
        int[] wants = {-1000, -1008, -1009, -2016, -2000, -2000, -2003, -2006, -2009, -2000, -2000};
        for (int k = 0; k < texts.length; k++) {
            refused(wants[k], "text 7", rowOf(texts[k]));
        }
    }

    private static String[] rowOf(String text) {
        String[] r = new String[text.length() + 1];
        r[0] = "row 7 0 " + text.length();
        for (int i = 0; i < text.length(); i++) {
            r[i + 1] = "put 7 " + i + " " + (int) text.charAt(i);
        }
        return r;
    }

    private static void refusedRestore() {
        Calls x = new Calls("no IMAGE");
        x.dueText("c0/9 9/0;", 1);
        x.tell("set 0 0 5");
        x.due("restore", -3);
        x.due("count 0", 1);
        x.due("set 0 0 5", 5);
        x.due("image", 1);
        x.due("restore", 1);
    }

    public static void main(String[] args) {
        rangesOfParts();
        rangesOfCurves();
        rangesOfBoxes();
        rangesOfRoofs();
        rangesOfSkies();
        rangesOfPlans();
        rangesOfFaults();
        rangesOfShelves();
        rangesOfCopies();
        anyNumber();
        partsWhenFull();
        rowsAndBoxesWhenFull();
        noParts();
        otherKinds();
        outOfRangeAheadOfOtherKinds();
        otherShelves();
        copiesOfOtherSorts();
        outOfRangeAheadOfShelves();
        shelvesAheadOfPlaces();
        placesAheadOfNone();
        refusedRows();
        refusedTexts();
        refusedRestore();
        Calls.end("RefusalTests");
    }
}
