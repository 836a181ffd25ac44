/**
 * A test of its own for each sentence of the document's terms that names a bound: the last that is still so and the
 * first that isn't, the empty and the full. The name of each house is the sentence; answers are worked out by hand.
 */
public final class BoundTests {
    private static final long ARGUMENT = Calls.ARGUMENT;
    private static final long STATE = Calls.STATE;

    private static Calls house(String sentence, String text) {
        Calls x = new Calls(sentence);
        if (!text.isEmpty()) {
            int n = text.length() - text.replace(";", "").length();
            x.dueText(text, n);
        }
        return x;
    }

    private static String times(int n, String text) {
        StringBuilder b = new StringBuilder();
        for (int i = 0; i < n; i++) {
            b.append(text);
        }
        return b.toString();
    }

    // ---- CURVES

    private static void points() {
        Calls x = house("a CURVE has 2 .. 6 POINTS", "");
        x.fault("c0/9;", -2000);
        x.fault("c0/0;", -2000);
        x.dueText("c0/9 9/0;", 1);
        x.dueText("c0/9 1/8 2/7 3/6 4/5 5/0;", 1);
        x.fault("c0/9 1/8 2/7 3/6 4/5 5/4 6/0;", -2000);
        x.fault("c0/9 1/8 2/7 3/6 4/5 5/0 6/0;", -2000);
        x.fault("c0/19 1/18 2/17 3/16 4/15 5/14 6/13 7/12 8/11 9/10 10/9 11/8 12/7 13/6 14/5 15/4 16/3 17/2 18/1 19/0;", -2000);
        x.due("about 0 3", 2);
        x.due("about 1 3", 6);
        x.dueRow("point 0 # 0", 0, 0, 9, -1);
        x.dueRow("point 1 # 1", 0, 9, 8, 7, 6, 5, 0, -1);
    }

    private static void pushes() {
        Calls x = house("PUSH 0 .. 60, rising, the first 0", "");
        x.dueText("c0/9 60/0;", 1);
        x.fault("c0/9 61/0;", -2000);
        x.fault("c0/9 99/0;", -2000);
        x.fault("c0/9 60/5 61/0;", -2000);
        x.fault("c0/9 61/5 60/0;", -2000);
        x.dueText("c0/9 1/0;", 1);
        x.fault("c0/9 0/0;", -2000);
        x.fault("c1/9 2/0;", -2000);
        x.fault("c1/9 0/0;", -2000);
        x.fault("c60/9 61/0;", -2000);
        x.dueText("c0/9 59/5 60/0;", 1);
        x.fault("c0/9 60/5 60/0;", -2000);
        x.fault("c0/9 60/5 59/0;", -2000);
        x.fault("c0/9 0/5 60/0;", -2000);
        x.dueRow("point 0 # 0", 0, 0, 60, -1);
        x.dueRow("point 1 # 0", 0, 0, 1, -1);
    }

    private static void currents() {
        Calls x = house("CURRENT 0 .. 99, falling, the last 0; the first above 0", "");
        x.dueText("c0/99 1/0;", 1);
        x.dueText("c0/1 1/0;", 1);
        x.fault("c0/0 1/0;", -2000);
        x.fault("c0/100 1/0;", -1005);
        x.fault("c0/9 1/1;", -2000);
        x.fault("c0/9 1/9;", -2000);
        x.fault("c0/9 1/10;", -2000);
        x.dueText("c0/2 1/1 2/0;", 1);
        x.fault("c0/2 1/2 2/0;", -2000);
        x.fault("c0/2 1/3 2/0;", -2000);
        x.fault("c0/2 1/0 2/0;", -2000);
        x.fault("c0/0 1/0 2/0;", -2000);
        x.fault("c0/0 1/1 2/0;", -2000);
        x.fault("c0/9 1/8 2/7 3/6 4/6 5/0;", -2000);
        x.fault("c0/9 1/8 2/7 3/6 4/5 5/1;", -2000);
        x.dueRow("current # 0", 0, 99, 1, 2, -1);
    }

    private static void shares() {
        Calls x = house("SHARE: LIGHT times (100 less DIRT) times (100 less WEAR) by 10000, cut", "c0/99 60/0;");
        x.due("point 0 0 1", 99);
        x.tell("set 0 0 99");
        x.due("point 0 0 1", 98);
        x.tell("set 0 0 1");
        x.due("point 0 0 1", 0);
        x.tell("set 0 0 2");
        x.due("point 0 0 1", 1);
        x.tell("set 0 1 50");
        // 2 by 50: 1, of 99 nothing
        x.due("point 0 0 1", 0);
        x.tell("set 0 0 100", "set 0 2 50");
        // 25 of 99
        x.due("point 0 0 1", 24);
        x.tell("set 0 0 99", "set 0 1 1", "set 0 2 1");
        // 99 by 99 by 99: 970299, SHARE 97
        x.due("point 0 0 1", 96);
        x.tell("set 0 0 14", "set 0 1 19", "set 0 2 3");
        // 14 by 81 by 97: 109998, SHARE 10
        x.due("point 0 0 1", 9);
        x.tell("set 0 0 0");
        x.dueEach(0, "point 0 0 1", "point 0 1 1");
        x.tell("set 0 0 100", "set 0 1 0", "set 0 2 0", "dead 0 true");
        x.dueEach(0, "point 0 0 1", "point 0 1 1");
        x.dueRow("point 0 # 0", 0, 0, 60);
    }

    private static void settingsOfOthers() {
        Calls x = house("LIGHT, DIRT, WEAR, WARM, DEAD of a CELL are its own", "c0/9 9/0;");
        x.tell("set 0 0 61", "set 0 1 31", "set 0 2 32", "set 0 3 33", "dead 0 true");
        x.dueText("c0/9 9/0;c0/9 9/0;r1 2;b3;", 4);
        x.dueRow("count #", 5, 1);
        x.dueRow("set 1 # 7", 0, 100, 0, 0, 0);
        x.due("dead 1 true", 1);
        x.dueRow("set 2 # 8", 0, 100, 0, 0, 0);
        x.due("dead 2 false", 0);
        x.dueRow("set 0 # 9", 0, 61, 31, 32, 33);
        x.due("dead 0 false", 1);
        x.due("count 5", 1);
        x.dueRow("set 1 # 9", 0, 7, 7, 7, 7);
        x.dueRow("set 2 # 9", 0, 8, 8, 8, 8);
    }

    private static void warmth() {
        Calls x = house("PUSH less PUSH times WARM by 100, cut", "c0/9 19/8 60/0;");
        x.tell("set 0 3 1");
        x.dueRow("point 0 # 0", 0, 0, 19, 60);
        x.tell("set 0 3 2");
        x.dueRow("point 0 # 0", 0, 0, 19, 59);
        x.tell("set 0 3 5");
        x.dueRow("point 0 # 0", 0, 0, 19, 57);
        x.tell("set 0 3 6");
        x.dueRow("point 0 # 0", 0, 0, 18, 57);
        x.tell("set 0 3 40");
        x.dueRow("point 0 # 0", 0, 0, 12, 36);
    }

    private static void pushOfCell() {
        Calls x = house("PUSH between two POINTS, cut; of both, the later ones first", "c0/9 20/6 30/0;");
        x.dueRow("push 0 #", 0, 30, 29, 27, 25, 24, 22, 20, 14, 7, 0);
        x = house("at CURRENT of a POINT where the next has it too", "c0/4 10/3 20/2 30/0;");
        x.tell("set 0 0 50");
        // CURRENTS 2, 1, 1, 0
        x.dueRow("push 0 #", 0, 30, 20, 0, -2);
        x.tell("set 0 0 25");
        // CURRENTS 1, 0, 0, 0
        x.dueRow("push 0 #", 0, 30, 0, -2);
        x.tell("set 0 0 24");
        x.dueRow("push 0 #", 0, 30, -2, -4);
        x = house("CURRENT of its first POINT where the second has it too", "c0/3 10/2 20/0;");
        x.tell("set 0 0 50");
        // 1, 1, 0
        x.dueRow("push 0 #", 0, 20, 10, -2);
    }

    private static void backward() {
        Calls x = house("BACKWARD: 0 less 2 for each CURRENT that c is above, -20 at least", "c0/5 10/0;");
        x.dueRow("push 0 #", 4, 2, 0, -2, -4, -6, -8, -10, -12, -14, -16, -18, -20, -20, -20);
        x.due("push 0 99", -20);
        x.due("push 0 100", -20);
        x.due("push 0 999", -20);
        x = house("BACKWARD above 99 CURRENT", "c0/99 60/0;");
        x.dueRow("push 0 #", 98, 1, 0, -2, -4);
        x.dueRow("push 0 #", 108, -18, -20, -20);
        x.due("push 0 999", -20);
    }

    // ---- ROWS, FIELDS, BOXES

    private static void diodes() {
        Calls x = house("under a DIODE -1 at least", "c0/4 10/0;c0/8 8/4 9/0;r[0 1];");
        // 0 gives -2, -4, -6, -8 from 5 on, 1 gives 6, 4, 2, 0, then -2
        x.dueRow("push 2 #", 4, 8, 4, 0, -1, -1, -1);
        x.due("push 2 999", -1);
        x.dueRow("held 2 # 1", 4, 0, 0, 0, 1, 1, 1);
        x = house("-1 by itself is no less under a DIODE", "c0/4 10/0;c0/5 10/4 11/0;c0/9 1/5 2/0;r[0 2];r1;");
        // at 4: 0 and 2; at 5: -2 and 1; at 6: -4 and 1
        x.dueRow("push 3 #", 4, 2, -1, -1);
        x.dueRow("held 3 # 1", 4, 0, 0, 1);
    }

    private static void diodesOfSeveralGroups() {
        Calls x = house("each GROUP has a DIODE of its own or none", "c0/1 5/0;c0/1 5/0;c0/1 5/0;c0/1 5/0;r[0 1] [2] 3;");
        // above 1 a CELL gives -2 for each CURRENT: the GROUPS -1, -1, all of it
        x.dueRow("push 4 #", 0, 20, 0, -4, -6, -8);
        x.due("push 4 11", -22);
        x.due("push 4 999", -22);
        x.dueRow("held 4 # 1", 1, 0, 2, 2);
        x.dueRow("held 4 # 2", 1, 0, 4, 4);
        x.due("about 4 3", 3);
        x.due("about 4 2", 2);
    }

    private static void currentOfRow() {
        Calls x = house("CURRENT: the greatest c 0 .. 99 at which PUSH is u or more; 0 if there is none", "c0/99 60/0;c0/98 60/0;");
        // 60 less 60 by 99 times 1, times 2, cut: 60, 59
        x.due("current 0 60", 1);
        x.due("current 0 61", 0);
        x.due("current 0 0", 99);
        x.due("current 0 59", 3);
        x.dueRow("current 1 #", -4, 99, 99, 99, 98, 98);
        x.due("current 0 -50", 99);
        x.due("current 0 999", 0);
        x = house("CURRENT below PUSH 0", "c0/9 9/0;r0;");
        x.dueRow("current 1 #", -22, 99, 99, 99, 18, 18, 17, 17);
        x.dueRow("current 1 #", -2, 10, 9, 9, 8);
        x.tell("dead 0 true");
        x.dueRow("current 1 #", -3, 1, 1, 0, 0, 0);
        x = house("CURRENT of a ROW under DIODES below PUSH -1", "c0/9 9/0;r[0];");
        x.dueRow("current 1 #", -2, 99, 99, 9, 8);
    }

    private static void pushOfField() {
        Calls x = house("PUSH of a FIELD: the greatest u 0 .. 999; -1: none", "c0/5 10/0;c0/3 20/0;f0 1;");
        // 20, 14, 7, 0 of the second; 10, 8, 6, 4, 2, 0 of the first
        x.dueRow("push 2 #", 0, 999, 14, 8, 7, 6, 4, 2, 0, 0, -1, -1);
        x.due("push 2 999", -1);
        x.due("current 2 0", 8);
        x.tell("dead 0 true", "dead 1 true");
        x.dueRow("push 2 #", 0, 999, -1);
    }

    private static void groupsOfRow() {
        Calls x = house("a ROW has 8 CELLS at most", times(9, "c0/1 1/0;"));
        x.fault("r0 1 2 3 4 5 6 7 8;", -2000);
        x.fault("r[0 1 2 3 4 5 6 7 8];", -2000);
        x.fault("r[0] [1] [2] [3] [4] [5] [6] [7] [8];", -2000);
        x.fault("r[0 1 2 3] 4 [5 6 7 8];", -2000);
        x.fault("r9;", -2000);
        x.dueText("r8;", 1);
        x.dueText("r[0] [1] [2] [3] [4] [5] [6] [7];", 1);
        x.due("about 10 1", 8);
        x.due("about 10 2", 8);
        x.due("about 10 3", 8);
        x.due("faults 10", 17);
        x.due("held 10 3 1", 8);
        x.due("push 10 0", 8);
        x.due("push 10 3", -8);
        x = house("8 CELLS in one GROUP", times(8, "c0/1 60/0;"));
        x.dueText("r[0 1 2 3 4 5 6 7];", 1);
        x.due("about 8 1", 8);
        x.due("about 8 2", 1);
        x.due("about 8 3", 1);
        x.due("push 8 0", 480);
        x.due("push 8 999", -1);
        x.tell("dead 0 true");
        x.due("fits 8 7 -1", -13);
        x.lay(0, 0);
        x.due("fits 8 0 -1", 10);
        x.due("fits 8 0 9", 9);
        x.due("fits 8 0 10", -4);
    }

    private static void membersOfField() {
        Calls x = house("a FIELD has 6 at most", times(8, "c0/1 1/0;"));
        x.fault("f0 1 2 3 4 5 6;", -2000);
        x.fault("f0 1 2 3 4 5 6 7;", -2000);
        x.fault("f8;", -2000);
        x.dueText("f0 1 2 3 4 5;", 1);
        x.dueText("f6;", 1);
        x.due("about 8 3", 6);
        x.due("about 8 1", 6);
        x.due("current 8 0", 6);
        x.due("about 9 3", 1);
        x = house("a FIELD of 6 ROWS", times(7, "c0/1 1/0;"));
        x.fault("r0;r1;r2;r3;r4;r5;r6;f7 8 9 10 11 12 13;", -2021);
        x.dueText("r0;r1;r2;r3;r4;r5;r6;f7 8 9 10 11 12;", 8);
        x.fault("f7 13;", -2000);
        x.fault("f13 13;", -2000);
        x.due("about 14 3", 6);
        x.due("current 14 -50", 6 * 99);
        x.due("push 14 594", -1);
    }

    private static void greatField() {
        Calls x = house("39 PARTS in one FIELD and it", times(11, "c0/1 9/0;"));
        x.layText(6, times(11, "c0/1 9/0;"));
        x.due("text 6", 11);
        x.dueText(times(11, "c0/1 9/0;"), 11);
        x.dueText("r0 1 2 3 4 5 6 7;r8 9 10 11 12 13 14 15;r16 17 18 19 20 21 22 23;r24 25 26 27 28 29 30 31;", 4);
        x.dueText("f32 33 34 35 36;b37;", 2);
        x.due("count 0", 39);
        x.due("about 38 1", 33);
        x.due("faults 38", 34);
        // of 8 CELLS one above 4 would give -64
        x.due("current 38 -50", 4 * 4 + 99);
        x.due("current 38 0", 5);
        x.due("push 38 4", 0);
        x.due("push 38 5", 0);
        x.due("push 38 6", -1);
        x.lay(0, 0, 0, 5);
        x.due("fits 38 0 -1", 1);
        x.lay(0, 0, 0, 4);
        x.due("fits 38 0 -1", 33);
        x.due("fits 38 0 0", 1);
        x.due("fits 38 0 32", 33);
        x.due("fits 38 0 33", -4);
        x.tell("keep 1 1 37", "keep 2 1 32");
        x.due("weight 1", 2 * (10 + 37 + 330));
        x.due("weight 2", 10 + 32 + 9);
        x.due("toss 1", 1005);
    }

    private static void diodesInField() {
        Calls x = house("a DIODE holds its own GROUP alone", "c0/5 10/0;c0/5 10/0;r[1];f0 2;");
        // a CELL gives 5 at -1 and 6 at -2, under a DIODE 99 at both
        x.dueRow("current 3 #", -2, 105, 104, 10);
        x.due("about 3 2", 1);
        x = house("likewise with the CELL behind", "c0/5 10/0;c0/5 10/0;r[1];f2 0;");
        x.dueRow("current 3 #", -2, 105, 104, 10);
        x = house("likewise of two ROWS", times(4, "c0/5 10/0;") + "r0 1;r[2] 3;f4 5;b6;");
        // at 6 the first gives -4, the other -3
        x.dueRow("current 4 #", -4, 6, 5, 5, 5, 5);
        x.dueRow("current 5 #", -4, 6, 6, 5, 5, 5);
        x.dueRow("current 6 #", -4, 12, 11, 10, 10, 10);
        x.dueRow("current 7 #", -4, 12, 11, 10, 10, 10);
        x.lay(0, 0, -3, 11);
        // CELL 2 DEAD is under its DIODE; any other CELL DEAD makes it less
        x.dueRow("fits 6 0 #", -1, 2, 0, 3, -4);
        x.lay(0, 0, -3, 10);
        x.due("the DIODE of the second ROW", 5, "fits 6 0 0");
        x.due("faults 6", 6);
    }

    private static void boxGives() {
        Calls x = house("a BOX gives what that gives that it is over",
            "c0/9 20/8 30/0;b0;c0/6 25/0;c0/8 20/0;r2 [3];b4;c0/5 10/0;c0/7 14/0;r7;f6 8;b9;");
        x.tell("set 0 0 80", "set 2 1 20", "set 3 2 30", "set 7 3 10", "lies 0 0 101", "wall 0 0 0 1");
        x.lay(0, 0, 90, 50);
        x.lay(1, 0, 5, 5);
        x.tell("sky 0");
        int[][] pairs = {{0, 1}, {4, 5}, {9, 10}};
        for (int[] pair : pairs) {
            for (String call : new String[] {"about # 1", "about # 2", "push # 0", "push # 5", "push # 9", "push # 999",
                "current # -50", "current # -1", "current # 0", "current # 7", "best # 0", "best # 1", "best # 2",
                "hump # -1", "hump # 0", "hump # 9", "hour # 0 0", "hour # 0 1", "hour # 9 11", "day # 0", "without # 0",
                "without # 5", "without # 15", "loss # 1 false", "loss # 0 true", "faults #", "fits # 1 -1", "fits # 1 0",
                "look # 1"}) {
                x.dueAlike(call, pair[0], pair[1]);
            }
            x.due("about " + pair[1] + " 0", 3);
            x.due("about " + pair[1] + " 3", 1);
            x.due("about " + pair[0] + " 4", pair[1]);
        }
        x.dueEach(-3, "point 1 0 0", "set 1 0 5", "dead 1 true", "lies 1 0 0", "lit 1 0", "held 5 0 0");
    }

    private static void inOneOther() {
        Calls x = house("each PART is in one other at most", times(6, "c0/1 1/0;") + "r0;f1;b2;r3;b9;f4;b11;");
        for (String other : new String[] {"0", "1", "2", "3", "4"}) {
            x.fault("r" + other + ";", -2000);
            x.fault("f" + other + ";", -2000);
            x.fault("b" + other + ";", -2000);
            x.fault("r5 " + other + ";", -2000);
            x.fault("f5 " + other + ";", -2000);
        }
        // a ROW, a FIELD, a BOX: 6 and 7 are free, 9 and 11 are under a BOX
        for (String fault : new String[] {"r6;", "r7;", "r8;", "f7;", "f8;", "b8;", "b9;", "b10;", "b11;", "b12;", "f9;"}) {
            x.fault(fault, -2000);
        }
        x.dueText("f6;b13;b7;b5;", 4);
        x.dueRow("about # 4", 0, 6, 7, 8, 9, 11, 16, 13, 15, -4, 10, -4, 12, -4, 14, -4, -4, -4, -1);
    }

    // ---- TEXTS

    private static void textOfOneStatement() {
        Calls x = house("a TEXT has one STATEMENT at least", "");
        x.fault("", -1000);
        x.fault(";", -1000);
        x.dueText("c0/1 1/0;", 1);
    }

    private static void textOf120() {
        Calls x = house("a TEXT as long as a ROW can be: 120 bytes", "");
        String twelve = times(12, "c0/1 1/0;");
        x.fault(twelve + "c0/99 60/0;f", -1120);
        x.fault(twelve + "c0/10 10/0;;", -1119);
        x.fault(twelve + "r0 1 2 3;b3;", -2117);
        x.dueText(twelve + "r0 1 2 3;b4;", 14);
        x.due("count 0", 14);
    }

    private static void digits() {
        Calls x = house("NUMBERS have 1 or 2 digits, no 0 ahead of another", "");
        x.fault("c0/00 1/0;", -1004);
        x.fault("c00/1 1/0;", -1002);
        x.fault("c0/01 1/0;", -1004);
        x.fault("c0/1 01/0;", -1006);
        x.fault("c0/1 1/00;", -1008);
        x.fault("c0/111 1/0;", -1005);
        x.fault("c100/1 1/0;", -1003);
        x.fault("c0/1 100/0;", -1007);
        x.fault("r00;", -1002);
        x.fault("r01;", -1002);
        x.fault("r100;", -1003);
        x.fault("r[00];", -1003);
        x.fault("r[100];", -1004);
        x.fault("f00;", -1002);
        x.fault("f100;", -1003);
        x.fault("b01;", -1002);
        x.fault("b100;", -1003);
        x.fault("r99;", -2000);
        x.fault("f99;", -2000);
        x.fault("b99;", -2000);
        x.dueText("c0/10 10/0;", 1);
        x.due("point 0 1 0", 10);
        x.fault("c/1 1/0;", -1001);
        x.fault("c0/ 1/0;", -1003);
        x.fault("c0/-1 1/0;", -1003);
        x.fault("c0/+1 1/0;", -1003);
        x.fault("c0/:1 1/0;", -1003);
    }

    private static void blanks() {
        Calls x = house("one blank between two", "");
        x.fault(" c0/1 1/0;", -1000);
        x.fault("c 0/1 1/0;", -1001);
        x.fault("c0 /1 1/0;", -1002);
        x.fault("c0/ 1 1/0;", -1003);
        x.fault("c0/1  1/0;", -1005);
        x.fault("c0/1,1/0;", -1004);
        x.fault("c0/1 1/0 ;", -1009);
        x.fault("c0/1 1/0; ", -1009);
        x.fault("c0/1 1/0;\n", -1009);
        x.fault("r 0;", -1001);
        x.fault("r0  1;", -1003);
        x.fault("r0 ;", -1003);
        x.fault("r[ 0];", -1002);
        x.fault("r[0 ];", -1004);
        x.fault("r[0  1];", -1004);
        x.fault("r[0]  1;", -1005);
        x.fault("r[0][1];", -1004);
        x.fault("r0[1];", -1002);
        x.fault("r[0]1;", -1004);
        x.fault("f 0;", -1001);
        x.fault("f0  1;", -1003);
        x.fault("b 0;", -1001);
        x.fault("b0 ;", -1002);
    }

    /** Behind each beginning of a STATEMENT: the bytes with which a TEXT can go on, and no others. */
    private static void bytesThatGoOn() {
        String digits = "0123456789";
        String begun = "c0/9 9/0;";
        goOnWith("", "crfb");
        goOnWith(begun, "crfb");
        goOnWith(begun + "c", digits);
        goOnWith(begun + "c0", "/");
        goOnWith(begun + "c1", digits + "/");
        goOnWith(begun + "c12", "/");
        goOnWith(begun + "c0/", digits);
        goOnWith(begun + "c0/0", " ;");
        goOnWith(begun + "c0/1", digits + " ;");
        goOnWith(begun + "c0/12", " ;");
        goOnWith(begun + "c0/1 ", digits);
        goOnWith(begun + "c0/1 0", "/");
        goOnWith(begun + "c0/1 1", digits + "/");
        goOnWith(begun + "c0/1 12", "/");
        goOnWith(begun + "r", digits + "[");
        goOnWith(begun + "r0", " ;");
        goOnWith(begun + "r1", digits + " ;");
        goOnWith(begun + "r12", " ;");
        goOnWith(begun + "r0 ", digits + "[");
        goOnWith(begun + "r[", digits);
        goOnWith(begun + "r[0", " ]");
        goOnWith(begun + "r[1", digits + " ]");
        goOnWith(begun + "r[12", " ]");
        goOnWith(begun + "r[0 ", digits);
        goOnWith(begun + "r[0 1", digits + " ]");
        goOnWith(begun + "r[0]", " ;");
        goOnWith(begun + "r[0] ", digits + "[");
        goOnWith(begun + "r0 [1]", " ;");
        goOnWith(begun + "f", digits);
        goOnWith(begun + "f0", " ;");
        goOnWith(begun + "f1", digits + " ;");
        goOnWith(begun + "f12", " ;");
        goOnWith(begun + "f0 ", digits);
        goOnWith(begun + "b", digits);
        goOnWith(begun + "b0", ";");
        goOnWith(begun + "b1", digits + ";");
        goOnWith(begun + "b12", ";");
    }

    private static void goOnWith(String begun, String bytes) {
        int at = begun.length();
        Calls x = new Calls("behind " + begun);
        for (int next = -128; next < 128; next++) {
            if (next % 100 == 0) {
                x = new Calls("behind " + begun);
                x.layText(7, begun + "..");
            }
            if (next == -128) {
                x.layText(7, begun + "..");
            }
            // with ~ behind it the FAULT is there, or one place on
            x.tell("put 7 " + at + " " + next, "put 7 " + (at + 1) + " 126");
            boolean goes = next >= 0 && bytes.indexOf(next) >= 0;
            x.due("text 7", -1000 - at - (goes ? 1 : 0));
        }
        x.layText(7, begun);
        boolean whole = begun.endsWith(";");
        x.due("text 7", whole ? 1 : -1000 - at);
    }

    private static void shapeAheadOfBounds() {
        Calls x = house("kind 1 goes ahead of kind 2; bounds don't matter for it", "");
        x.fault("c99/99 0/99;x", -1012);
        x.fault("c0/0 1/0;r5 5 5 5 5 5 5 5 5;b", -1029);
        x.fault("c0/9;f9 9 9 9 9 9 9 9;q", -1022);
        x.fault("r0;b0;r0 0;[", -1011);
        x.fault(times(13, "b99;") + "b", -1053);
    }

    private static void firstFaultOfKind2() {
        Calls x = house("kind 2: the first STATEMENT that isn't as told", "c0/1 1/0;");
        x.fault("c0/1 1/0;c0/1 1/1;r99;", -2009);
        x.fault("r0;r0;c0/0 1/0;", -2003);
        x.fault("b1;c0/1 1/0;", -2000);
        x.fault("c0/1 1/0;b2;", -2009);
        x.fault("r0 1;c0/1 1/0;", -2000);
        x.fault("f0 0;", -2000);
        x.fault("r[0] 0;", -2000);
        x.dueText("c0/1 1/0;r1 0;b2;", 3);
    }

    private static void partNumber40() {
        Calls x = house("a PART that would be number 40", "");
        x.layText(6, times(13, "c0/1 1/0;"));
        x.tell("text 6", "text 6", "text 6");
        x.due("count 0", 39);
        x.fault("c0/1 1/0;c0/1 1/0;", -2009);
        x.fault("b0;b1;", -2003);
        x.fault("r0;r1;", -2003);
        x.fault("f0;f1;", -2003);
        x.fault("f0;c0/1 1/0;x", -1012);
        x.dueText("f0 38;", 1);
        x.due("count 0", 40);
        x.fault("c0/1 1/0;", -2000);
        x.fault("r1;", -2000);
        x.fault("f1;", -2000);
        x.fault("b1;", -2000);
        x.due("image", 40);
        x.due("restore", 40);
        x.due("about 39 4", -4);
        x.due("about 38 4", 39);
    }

    // ---- POWER, BEST, HUMPS

    private static void bestPush() {
        Calls x = house("BEST: u 0 .. 500, of several the least u", times(4, "c0/2 59/1 60/0;"));
        x.dueText(times(4, "c0/2 59/1 60/0;") + "r0 1 2 3 4 5 6 7;", 5);
        x.dueRow("best 8 #", 0, 472, 472, 1);
        x.due("current 8 473", 0);
        x.due("hump 8 -1", 1);
        x.due("hump 8 0", 472);
        for (int cell = 0; cell < 8; cell++) {
            x.tell("dead " + cell + " true");
        }
        x.dueRow("best 8 #", 0, 0, 0, 0);
        x.due("hump 8 -1", 0);
        x.due("hump 8 0", -4);
        x = house("of two u with one POWER the least", "c0/7 10/6 11/4 20/3 21/0;c0/4 9/3 10/0;");
        x.dueRow("best 0 #", 0, 60, 10, 6);
        x.dueRow("best 1 #", 0, 27, 9, 3);
        x = house("BEST of what gives CURRENT at PUSH 0 alone", "c0/1 60/0;");
        x.dueRow("best 0 #", 0, 0, 0, 1);
        x.tell("dead 0 true");
        x.dueRow("best 0 #", 0, 0, 0, 0);
    }

    private static void humps() {
        Calls x = house("HUMPS from u 1 on", "c0/9 1/0;");
        // PUSH 1 up to CURRENT 8: POWER 8 at 1, 0 at 2
        x.dueRow("hump 0 #", -2, -1, 1, 1, -4);
        x = house("several HUMPS", "c0/7 3/6 5/5 6/4 10/3 11/0;");
        // POWER 6, 12, 18, 20, 25, 24, 21, 24, 27, 30, 22
        x.dueRow("hump 0 #", -1, 2, 5, 10, -4);
        x = house("a flat top counts once, at its first u", "c0/4 2/3 3/2 4/1 5/0;c0/3 1/2 2/1 3/0;");
        // POWER 3, 6, 6, 4, 0
        x.dueRow("current 0 #", 0, 4, 3, 3, 2, 1, 0);
        x.dueRow("hump 0 #", -1, 1, 2, -4);
        // POWER 2, 2, 0
        x.dueRow("hump 1 #", -1, 1, 1, -4);
        x = house("what is flat, then rises, is no HUMP", "c0/4 2/3 4/2 5/0;");
        // POWER 3, 6, 6, 8, 5
        x.dueRow("hump 0 #", -1, 1, 4, -4);
        x = house("nor what falls, is flat, then falls", "c0/5 1/0;c0/4 2/3 3/2 4/1 5/0;f0 1;");
        // POWER 7, 6, 6, 4, 0
        x.dueRow("hump 2 #", -1, 1, 1, -4);
    }

    // ---- DIMMEST, PASSES, HOT

    private static void dimmest() {
        Calls x = house("DIMMEST: of several the first", "c0/5 10/0;c0/5 10/0;c0/4 10/0;r1 0 2;");
        x.dueRow("held 3 # 0", 0, 1, 1, 2, 2, 2, 2, 2);
        x.due("held 3 99 0", 1);
        x.due("held 3 14 0", 2);
        x.due("held 3 15 0", 1);
        x = house("the first in order is DIMMEST with the last", "c0/4 10/0;c0/5 10/0;c0/4 10/0;r[2 1] 0;");
        x.due("held 3 3 0", 2);
        x.tell("set 1 3 40");
        // 6 at 0; 10 for the others
        x.due("held 3 0 0", 1);
        x = house("DIMMEST in the midst", "c0/9 30/0;c0/2 10/0;c0/3 10/0;r0 1 2;");
        // 14, -6, -4
        x.due("held 3 5 0", 1);
    }

    private static void hot() {
        Calls x = house("HOT: c above CURRENT of the first POINT", "c0/5 10/0;c0/99 10/0;r0 [1];");
        x.dueRow("held 2 # 2", 4, 0, 0, 1);
        x.due("held 2 99 2", 1);
        x.tell("set 1 0 99");
        x.due("held 2 98 2", 1);
        x.due("held 2 99 2", 2);
        x.tell("dead 0 true", "dead 1 true");
        x.dueRow("held 2 # 2", 0, 0, 2);
    }

    // ---- BOXES

    private static void boxAtEnds() {
        Calls x = house("below 0 it stands at 0 and turns, above 500 at 500", "c0/9 60/0;b0;");
        x.tell("dead 0 true", "box 1 0 493");
        x.due("seek 1 1", 498);
        x.due("503 would be above", 500, "seek 1 1");
        x.due("seek 1 1", 495);
        x.tell("box 1 1 7", "box 1 0 497");
        x.due("seek 1 72", 3);
        x.due("-4 would be below", 0, "seek 1 1");
        x.due("seek 1 1", 7);
    }

    private static void boxByItsStep() {
        Calls x = house("a STEP that leads just to 500 or 0 does not turn it", "c0/9 60/0;b0;");
        x.tell("dead 0 true", "box 1 0 495");
        x.due("seek 1 1", 500);
        x.due("seek 1 1", 500);
        x.due("seek 1 1", 495);
        x.due("seek 1 98", 5);
        x.due("seek 1 1", 0);
        x.due("seek 1 1", 0);
        x.due("seek 1 1", 5);
        x.tell("box 1 0 494");
        x.due("seek 1 1", 499);
        x.due("seek 1 1", 500);
        x.due("seek 1 1", 495);
        x.tell("box 1 1 40", "box 1 0 500");
        x.due("seek 1 1", 500);
        x.due("seek 1 1", 460);
        x.due("seek 1 11", 20);
        x.due("seek 1 1", 0);
        x.due("seek 1 1", 40);
        x.tell("box 1 1 1", "box 1 0 0");
        x.due("seek 1 100", 100);
        x.due("seek 1 1", 101);
    }

    private static void boxTurns() {
        Calls x = house("if it has less now, it turns; equal is not less", "c0/2 10/1 20/0;b0;");
        // POWER 9 at 9, 10 at 10, 0 from 11 on
        x.tell("box 1 1 1", "box 1 0 9");
        x.due("nothing was measured ahead", 10, "seek 1 1");
        x.due("more than at 9", 11, "seek 1 1");
        x.due("less than at 10", 10, "seek 1 1");
        x.due("more than at 11", 9, "seek 1 1");
        x.due("less than at 10", 10, "seek 1 1");
        x.tell("box 1 0 11");
        x.due("0 all the way", 111, "seek 1 100");
        x.tell("box 1 0 10", "seek 1 1", "box 1 0 11");
        x.due("what was measured ahead is forgotten", 12, "seek 1 1");
        x.tell("box 1 0 9", "seek 1 3", "box 1 1 2");
        x.due("it goes up again", 12, "seek 1 1");
        x.tell("box 1 0 9", "seek 1 5", "box 1 0 12");
        x.due("and here", 14, "seek 1 1");
    }

    private static void led() {
        String text = "c0/2 59/1 60/0;c0/2 59/1 60/0;c0/2 58/1 60/0;c0/2 58/1 60/0;c0/2 58/1 60/0;c0/2 58/1 60/0;";
        Calls x = house("LED: STEP or less off BEST's u behind some of 0 .. n steps", text + "r0 1 2 3 4 5;b6;");
        x.due("best 6 1", 350);
        x.tell("box 7 1 1");
        x.dueEach(0, "led 7 349 0", "led 7 350 0", "led 7 351 0");
        x.dueEach(-4, "led 7 348 0", "led 7 352 0");
        x.due("led 7 348 1", 1);
        // 50 up to 500, one there, 149 down to 351
        x.due("led 7 450 200", 200);
        x.due("led 7 450 199", -4);
        x.due("led 7 449 200", -4);
        x.due("led 7 451 200", 199);
        x.due("led 7 500 200", 150);
        x.due("led 7 149 200", 200);
        x.due("led 7 148 200", -4);
        x.due("box 7 0 0", 0);
        x.tell("box 7 1 40");
        x.dueEach(0, "led 7 310 0", "led 7 390 0");
        x.dueEach(-4, "led 7 309 0", "led 7 391 0");
    }

    // ---- ROOFS

    private static void shadesInCut() {
        Calls x = house("as many PLACES on as HEIGHT times LENGTH by 10, cut", "c0/1 1/0;");
        x.tell("lies 0 0 1900", "wall 0 0 0 1");
        x.tell("sun 0 0 9");
        x.due("lit 0 0", 95);
        x.tell("sun 0 0 10");
        x.due("lit 0 0", 90);
        x.tell("sun 0 0 19");
        x.due("lit 0 0", 90);
        x.tell("sun 0 0 20");
        x.due("lit 0 0", 85);
        x.tell("sun 0 0 0", "wall 0 0 0 30");
        x.due("lit 0 0", 95);
        x.tell("sun 0 0 6");
        x.due("18 PLACES on", 5, "lit 0 0");
        x.tell("sun 0 0 30");
        x.due("lit 0 0", 0);
        x.tell("wall 0 0 0 0");
        x.due("lit 0 0", 100);
    }

    /** From the midst of the roof to each of its edges, and no farther. */
    private static void shadesToEdges() {
        Calls x = house("shades end with the roof", "c0/1 1/0;");
        // by how many PLACES of 240 the shade of a WALL at (10, 6) goes on: east 9, north-east 5, north 5, north-west 5,
        // west 10, south-west 6, south 6, south-east 6
        int[] shaded = {10, 6, 6, 6, 11, 7, 7, 7};
        x.tell("lies 0 0 1911", "wall 0 10 6 30");
        for (int direction = 0; direction < 8; direction++) {
            x.tell("sun 0 " + direction + " 30");
            x.due("direction " + direction, (240 - shaded[direction]) * 100 / 240, "lit 0 0");
        }
        String[] last = {"1906", "1511", "1011", "511", "6", "400", "1000", "1600"};
        for (int direction = 0; direction < 8; direction++) {
            x.tell("sun 0 " + direction + " 30", "lies 0 " + last[direction] + " " + last[direction]);
            x.due("the last in direction " + direction, 0, "lit 0 0");
            x.tell("sun 0 " + (direction + 4) % 8 + " 30");
            x.due("not the other way", 100, "lit 0 0");
        }
    }

    private static void shadesReach() {
        Calls x = house("the last PLACE that is shaded and the first that isn't", "c0/1 1/0;");
        // HEIGHT 3, LENGTH 10: 3 on
        String[] last = {"1306", "1309", "1009", "709", "706", "703", "1003", "1303"};
        String[] first = {"1406", "1410", "1010", "610", "606", "602", "1002", "1402"};
        x.tell("wall 0 10 6 3");
        for (int direction = 0; direction < 8; direction++) {
            x.tell("sun 0 " + direction + " 10", "lies 0 " + last[direction] + " " + last[direction]);
            x.due("3 on in direction " + direction, 0, "lit 0 0");
            x.tell("lies 0 " + first[direction] + " " + first[direction]);
            x.due("4 on in direction " + direction, 100, "lit 0 0");
        }
    }

    private static void lit() {
        Calls x = house("LIT: by how many it has, cut", "c0/1 1/0;");
        x.due("lies nowhere", 100, "lit 0 0");
        x.tell("lies 0 0 2", "wall 9 0 1 1");
        x.due("2 of 3", 66, "lit 0 0");
        x.tell("wall 8 0 2 1");
        x.due("1 of 3", 33, "lit 0 0");
        x.tell("wall 0 0 0 1");
        x.due("0 of 3", 0, "lit 0 0");
        x.tell("lies 0 0 1911");
        x.due("237 of 240", 98, "lit 0 0");
        x.tell("wall 9 0 0 0", "wall 8 0 0 0", "wall 0 19 11 1");
        x.due("239 of 240", 99, "lit 0 0");
        x.tell("wall 0 0 0 0");
        x.due("all", 100, "lit 0 0");
    }

    private static void allWalls() {
        Calls x = house("10 WALLS stand", "c0/1 1/0;");
        x.tell("lies 0 0 1900");
        for (int k = 0; k < 10; k++) {
            x.due("wall " + k + " " + 2 * k + " 0 1", 0);
            x.due("count 6", k + 1);
        }
        x.due("lit 0 0", 50);
        x.due("wall 10 0 0 1", -1);
        for (int k = 0; k < 10; k++) {
            x.due("wall " + k + " 0 0 0", 1);
            x.due("count 6", 9 - k);
        }
        x.due("lit 0 0", 100);
    }

    // ---- SKIES

    private static void gapsOfEachSort() {
        int[] least = {-128, -32768, Integer.MIN_VALUE};
        for (int sort = 0; sort < 3; sort++) {
            Calls x = house("the least number of its SORT is a GAP", "");
            x.lay(0, sort, 60, least[sort], 80, least[sort] + 1, 50);
            x.due("sky 0", 5);
            x.due("a GAP", 70, "strength 0 1");
            x.due("the least but one is none", 0, "strength 0 3");
            for (int other = 0; other < 3; other++) {
                if (other > sort) {
                    x.lay(1, other, 60, least[sort], 80);
                    x.due("sky 1", 3);
                    x.due("no GAP of a greater SORT", 0, "strength 0 1");
                }
            }
        }
    }

    private static void gapsAround() {
        Calls x = house("the nearest one ahead and the nearest one behind; one alone; 0 without any", "");
        x.lay(0, 0, -128, -128, 31, -128, -128, 64, -128, -128);
        x.tell("sky 0");
        x.dueRow("strength 0 #", 0, 31, 31, 31, 47, 47, 64, 64, 64, 0, 0);
        x.lay(0, 0, -128);
        x.tell("sky 0");
        x.dueRow("strength 0 #", 0, 0, 0);
        x.lay(0, 0, -128, -128, -128);
        x.tell("sky 0");
        x.dueRow("strength 0 #", 0, 0, 0, 0, 0);
        x.lay(0, 0, 40, -128);
        x.tell("sky 0");
        x.dueRow("strength 0 #", 0, 40, 40, 0);
        x.lay(0, 0, -128, 40);
        x.tell("sky 0");
        x.dueRow("strength 0 #", 0, 40, 40, 0);
        x.lay(0, 0);
        x.due("sky 0", 0);
        x.due("strength 0 0", 0);
        x.lay(0, 2, Integer.MAX_VALUE, Integer.MIN_VALUE, Integer.MAX_VALUE, Integer.MIN_VALUE, Integer.MIN_VALUE + 1,
            Integer.MIN_VALUE, Integer.MIN_VALUE + 1);
        x.tell("sky 0");
        x.due("two that are too much for an int together", 100, "strength 0 1");
        x.due("and their mean is 0", 0, "strength 0 3");
        x.due("two that are too little together", 0, "strength 0 5");
    }

    private static void gapsFromDayToDay() {
        Calls x = house("ahead and behind in the ROW, whichever DAY it is", "");
        x.answer("row 0 0 120");
        for (int i = 0; i < 120; i++) {
            x.answer("put 0 " + i + " -128");
        }
        x.tell("put 0 0 10", "put 0 119 50", "sky 0");
        x.due("strength 0 0", 10);
        x.due("strength 0 1", 30);
        x.due("strength 5 5", 30);
        x.due("strength 9 10", 30);
        x.due("strength 9 11", 50);
        x.due("count 7", 120);
    }

    private static void strengthAtEnds() {
        Calls x = house("what is below 0 is 0, above 100 is 100; behind its end 0", "");
        x.lay(0, 2, -1, 0, 1, 99, 100, 101, Integer.MAX_VALUE, Integer.MIN_VALUE + 1, 55);
        x.tell("sky 0");
        x.dueRow("strength 0 #", 0, 0, 0, 1, 99, 100, 100, 100, 0, 55, 0);
        // at the end: the mean is taken of what stands there
        x.lay(0, 1, 110, -32768, 99, -32768, -99, -32768, -2, -32768, 3, -32768, 201, -32768);
        x.tell("sky 0");
        x.dueRow("strength 0 #", 0, 100, 100, 99, 0, 0, 0, 0, 0, 3, 100, 100, 100);
        x.due("behind its end", 0, "strength 1 0");
        x.lay(0, 1, 300, -32768, -100, -32768, 102);
        x.tell("sky 0");
        x.dueRow("strength 0 #", 0, 100, 100, 0, 1, 100, 0);
        x.lay(0, 1, -300, -32768, 100);
        x.tell("sky 0");
        x.dueRow("strength 0 #", 0, 0, 0, 100);
        x.lay(0, 0, 0, 0, 0, 0, 0, 0, 0, 0, 0, 0, 0, 7, 8);
        x.tell("sky 0");
        x.due("HOUR 11 of DAY 0", 7, "strength 0 11");
        x.due("HOUR 0 of DAY 1", 8, "strength 1 0");
        x.due("behind its end", 0, "strength 1 1");
    }

    private static void lightOfHour() {
        Calls x = house("LIGHT is LIT there times strength by 100, cut", "c0/99 59/98 60/0;");
        x.lay(0, 0, 99, 100, 3, 4);
        x.tell("sky 0", "lies 0 0 2", "wall 0 0 0 1", "set 0 0 0");
        // LIT 66: by 99 it is 65, so that CURRENT is 62 at 60; by 100 it is 66, and 63 at 60
        x.due("hour 0 0 0", 3720);
        x.due("hour 0 0 1", 3780);
        x.due("by 3 it is 1", 0, "hour 0 0 2");
        x.due("by 4 it is 2", 59, "hour 0 0 3");
        x.due("behind the end of SKY", 0, "hour 0 0 4");
        x.due("day 0 0", 3720 + 3780 + 59);
        x.due("day 0 1", 0);
        x.due("LIGHT as told is another", 0, "best 0 0");
        x.due("it is not changed", 0, "set 0 0 0");
    }

    // ---- plans

    private static void washDays() {
        Calls x = house("n DAYS (1 .. 30)", "");
        x.lay(0, 1, 999);
        x.due("wash 0 209999", 999);
        x.due("washed 0 209999 -1", 0);
        int[] gains = new int[30];
        java.util.Arrays.fill(gains, 999);
        x.lay(0, 1, gains);
        x.due("no DIRT", 30 * 999, "wash 0 9999");
        // 999, 799, 599, then 499 on 27 DAYS
        x.due("DIRT 50 at most, the greatest PRICE", 999 + 799 + 599 + 27 * 499, "wash 0 209999");
        x.due("free", 30 * 999, "wash 0 200000");
        x.due("on all DAYS but the first", 29, "washed 0 200000 -1");
        x.due("washed 0 200000 0", 1);
        x.due("washed 0 200000 28", 29);
        x.due("washed 0 200000 29", -4);
        x.due("one DIRT a DAY, free", 29, "washed 0 10000 -1");
        x.lay(1, 1, new int[31]);
        x.due("wash 1 0", -13);
    }

    private static void dirtAtMost() {
        Calls x = house("DIRT grows by RATE, 50 at most", "");
        x.lay(0, 1, 100, 100, 100, 100, 100, 100, 100);
        // RATE 16: 0, 16, 32, 48, 50
        x.due("wash 0 169999", 100 + 84 + 68 + 52 + 50 + 50 + 50);
        // RATE 10: DIRT 50 on DAY 5, and on DAY 6
        x.due("wash 0 109999", 100 + 90 + 80 + 70 + 60 + 50 + 50);
        x.due("wash 0 19999", 100 + 99 + 98 + 97 + 96 + 95 + 94);
        x.lay(0, 1, 0, 1, 99, 3);
        // 1 by 99, 99 by 98, 3 by 97, each cut
        x.due("wash 0 19999", 97 + 2);
    }

    private static void washTies() {
        Calls x = house("of several the one with the fewest washings, then the latest", "");
        x.lay(0, 1, 0, 100);
        x.due("a PRICE that is just made up for", 90, "wash 0 100010");
        x.due("the fewest", 0, "washed 0 100010 -1");
        x.due("a PRICE one less", 91, "wash 0 100009");
        x.due("washed 0 100009 -1", 1);
        x.lay(0, 1, 0, 0, 0, 0);
        x.due("nothing to be made", 0, "washed 0 100000 -1");
        x.lay(0, 1, 0, 0, 0, 100);
        x.due("one, on the last", 3, "washed 0 100000 0");
        x.due("washed 0 100000 -1", 1);
        x.lay(0, 1, 0, 100, 0, 0, 100);
        x.due("two, the first as late as may be", 1, "washed 0 100000 0");
        x.due("the next as late as may be", 4, "washed 0 100000 1");
    }

    private static void washShorter() {
        Calls x = house("each BEST WASHING is planned by itself", "");
        x.lay(0, 1, 0, 100, 100, 100, 100, 100, 100);
        x.due("washed 0 200000 -1", 6);
        x.lay(0, 1, 0, 100);
        x.due("washed 0 100010 -1", 0);
        x.due("wash 0 100010", 90);
        x.lay(0, 1, 0, 0, 0, 0, 0, 0, 0);
        x.dueRow("washed 0 200000 #", -1, 0, -4);
    }

    private static void partingOfMany() {
        Calls x = house("PARTING of 2 .. 8 CELLS", times(9, "c0/4 9/0;") + "r8;");
        x.lay(0, 0, 5);
        x.due("one", -13, "parting 0 0");
        x.lay(0, 0, 5, 7);
        x.due("two: the second is in the second ROW", 2, "parting 0 1");
        // 4 at 9: 9, 7, 5, 3, 0: at 5 each gives 2
        x.due("side by side", 20, "parting 0 0");
        x.lay(0, 0, 0, 1, 2, 3, 4, 5, 6, 7);
        x.due("eight", 2 + 4 + 8 + 16, "parting 0 1");
        x.lay(0, 0, 7, 6, 5, 4, 3, 2, 1, 8);
        x.due("a CELL that is in a ROW", 2 + 4 + 8 + 16, "parting 0 1");
        x.lay(0, 0, 0, 1, 2, 3, 4, 5, 6, 7, 8);
        x.due("nine", -13, "parting 0 0");
        x.lay(0, 0);
        x.due("none", -13, "parting 0 0");
        for (int cell = 0; cell < 8; cell++) {
            x.tell("dead " + cell + " true");
        }
        x.lay(0, 0, 0, 1, 2, 3);
        x.due("all are one: the least set", 2, "parting 0 1");
        x.due("of no POWER", 0, "parting 0 0");
    }

    private static void partingSets() {
        Calls x = house("the set of those in the second ROW as bits", "c0/2 59/1 60/0;c0/9 10/8 11/0;c0/9 10/8 11/0;c0/9 10/8 11/0;");
        // the weak one alone in its ROW, three strong ones in the other: 30 by 8 + 1
        x.lay(0, 0, 0, 1, 2, 3);
        x.due("parting 0 1", 2 + 4 + 8);
        x.due("parting 0 0", 270);
        x.lay(0, 0, 1, 2, 3, 0);
        x.due("the last alone", 8, "parting 0 1");
        x.lay(0, 0, 1, 0, 2, 3);
        x.due("the second alone", 2, "parting 0 1");
        x.lay(0, 0, 1, 2, 0, 3);
        x.due("the third alone", 4, "parting 0 1");
        x.due("parting 0 0", 270);
    }

    private static void partingEachOne() {
        Calls x = house("each ROW has at least one", "c0/9 10/8 11/0;c0/9 20/8 21/0;");
        x.lay(0, 0, 0, 1);
        // in one ROW they would give 8 at 30; side by side 7 and 8 at 11
        x.due("parting 0 0", 165);
        x.due("parting 0 1", 2);
        x.due("current 0 -50", 99);
        x.due("whatever was asked ahead", 165, "parting 0 0");
        x.due("current 0 999", 0);
        x.due("parting 0 0", 165);
        x.due("parting 0 1", 2);
    }

    private static void storeAtEnds() {
        Calls x = house("a store holds 0 .. ROOM (0 .. 30)", "");
        x.tell("trade 0 2000", "trade 1 2000", "trade 2 99");
        x.due("ROOM 0: nothing is stored", 0, "sells -1");
        x.dueRow("sells #", 0, 20, 20, 0);
        x.due("room 30", 0);
        x.due("30 of 40", 30 * 99, "sells -1");
        x.due("what is above ROOM is sold, as late as may be", 0, "sells 0");
        x.dueRow("sells #", 0, 0, 10, 30, 0);
        x.due("room 1", 30);
        x.dueRow("sells #", 0, 19, 20, 1, 0);
        x.due("sells -1", 99);
    }

    private static void storeFull() {
        Calls x = house("SURPLUS 20 and PRICE 99 in all HOURS", "");
        for (int h = 0; h < 12; h++) {
            x.due("trade " + h + " 2099", 0);
        }
        x.due("sells -1", 12 * 20 * 99);
        x.dueRow("sells #", 0, 20, 20, 20, 20, 20, 20, 20, 20, 20, 20, 20, 20, -1);
        x.tell("room 30");
        x.due("sells -1", 12 * 20 * 99);
        // 30 are kept as long as may be, and all are sold in the last HOUR
        x.dueRow("sells #", 0, 0, 10, 20, 20, 20, 20, 20, 20, 20, 20, 20, 50, -1);
        x.tell("trade 11 2000");
        x.due("nothing for PRICE 0 at the end", 11 * 20 * 99, "sells -1");
        x.dueRow("sells #", 9, 20, 50, 0);
        x.tell("trade 11 0");
        x.due("sells 11", 0);
    }

    private static void lossesOfSets() {
        Calls x = house("sets of CAUSES 0 .. 15", "c0/8 20/0;");
        x.tell("set 0 0 0", "set 0 1 50", "set 0 2 50", "set 0 3 40");
        // with LIGHT SHARE is 25, 50, 100, its last PUSH 12 or 20
        x.dueRow("without 0 #", -1, -1, 0, 6, 0, 12, 0, 12, 0, 25, 0, 10, 0, 20, 0, 20, 0, 40, -1);
        x.dueRow("loss 0 # false", -1, ARGUMENT, 6, 6, 13, 15, ARGUMENT);
        // 6 orders begin with it, 6 end with it, and 2 have just these two or that one ahead of it
        long light = 6 * 6 + 2 * (12 + 12 + 10) + 2 * (25 + 20 + 20) + 6 * 40;
        long dirt = 2 * (12 - 6) + 2 * (25 - 12) + 2 * (20 - 10) + 6 * (40 - 20);
        long warm = 2 * (10 - 6) + 2 * (20 - 12) + 2 * (20 - 12) + 6 * (40 - 25);
        x.dueRow("loss 0 # true", -1, ARGUMENT, light, dirt, dirt, warm, ARGUMENT);
    }

    private static void lossesOfAllCells() {
        Calls x = house("for all its CELLS", "c0/8 20/0;c0/8 20/0;c0/8 20/0;f0 1 2;b3;");
        for (int cell = 0; cell < 3; cell++) {
            x.tell("set " + cell + " 0 0", "set " + cell + " 1 50", "set " + cell + " 2 50", "set " + cell + " 3 40");
        }
        x.dueRow("without 3 #", 0, 0, 3 * 6, 0, 3 * 12, 0, 3 * 12, 0, 3 * 25, 0, 3 * 10, 0, 3 * 20, 0, 3 * 20, 0, 3 * 40);
        x.dueRow("without 4 #", 14, 0, 3 * 40, -1);
        x.due("best 3 0", 0);
        x = house("LIGHT 100 in place of another", "c0/99 59/98 60/0;");
        x.tell("set 0 0 7", "set 0 1 3", "set 0 2 3");
        // 97 by 97: SHARE 94, 91 at 60
        x.due("without 0 1", 5460);
        x.due("DEAD stays", 1, "dead 0 true");
        x.due("without 0 15", 0);
    }

    // ---- FAULTS

    private static void measured() {
        Calls x = house("MEASURED: 0 .. 40 elements, no odd size", "c0/5 10/0;");
        x.lay(0, 0);
        x.due("nothing is measured: all FIT", 2, "fits 0 0 -1");
        x.due("the least u", 0, "look 0 0");
        x.lay(0, 0, 0, 5);
        x.due("fits 0 0 -1", 1);
        x.due("fits 0 0 0", 0);
        x.lay(0, 0, 0, 0);
        x.due("fits 0 0 -1", 1);
        x.due("fits 0 0 0", 1);
        int[] forty = new int[40];
        for (int i = 0; i < 40; i += 2) {
            forty[i] = i % 4 == 0 ? 0 : 10;
            forty[i + 1] = i % 4 == 0 ? 5 : 0;
        }
        x.lay(0, 0, forty);
        x.due("40", 1, "fits 0 0 -1");
        x.tell("put 0 39 1");
        x.due("the last of 40 is looked at", 0, "fits 0 0 -1");
        x.due("look 0 0", -4);
        x.lay(0, 0, new int[41]);
        x.due("41", -13, "fits 0 0 -1");
        x.lay(0, 0, new int[42]);
        x.due("42", -13, "fits 0 0 -1");
        x.lay(0, 0, 0);
        x.due("1", -13, "fits 0 0 -1");
    }

    private static void measuredBelow0() {
        Calls x = house("each as it is, below 0 too", "c0/5 10/0;");
        // at -19 it gives 14, DEAD it gives 9; at -20 both give 99
        x.lay(0, 0, -19, 14);
        x.due("fits 0 0 0", 0);
        x.due("fits 0 0 -1", 1);
        x.lay(0, 0, -19, 9);
        x.due("fits 0 0 0", 1);
        for (int u : new int[] {-20, -50, -51, -128}) {
            x.lay(0, 0, u, 99);
            x.due("at " + u, 2, "fits 0 0 -1");
        }
        x.lay(0, 0, 127, 0);
        x.due("at 127", 2, "fits 0 0 -1");
        x.dueText(times(3, "c0/2 59/1 60/0;") + "r1 2 3;", 4);
        x.lay(0, 0, 127, 1);
        x.dueRow("fits 4 0 #", -1, 1, 0, -4);
        x.lay(0, 0, 127, 0);
        x.dueRow("fits 4 0 #", -1, 3, 1, 2, 3, -4);
        x.lay(0, 0, 0, -1);
        x.due("CURRENT -1", 0, "fits 0 0 -1");
        x.lay(0, 0, 0, 256 + 5);
        x.due("the lowest bits", 0, "fits 0 0 0");
        x.lay(0, 0, 0, -128);
        x.due("CURRENT -128", 0, "fits 0 0 -1");
    }

    private static void measuredAbove127() {
        Calls x = house("CURRENT above what a byte can be", times(2, "c0/99 10/0;") + "f0 1;");
        x.due("current 2 0", 198);
        x.lay(0, 0, 0, 198);
        x.due("no byte is 198", 0, "fits 2 0 -1");
        x.lay(0, 0, 0, 99);
        x.due("one of them DEAD", 2, "fits 2 0 -1");
        x.due("fits 2 0 0", 1);
        x.due("fits 2 0 1", 2);
    }

    private static void looks() {
        Calls x = house("u 0 .. 120, of several the least u", times(3, "c0/2 39/1 40/0;") + "c0/2 3/1 40/0;r0 1 2;r3;f4 5;");
        x.lay(0, 0, 100, 1);
        x.due("none, or the other ROW's CELL DEAD", 2, "fits 6 0 -1");
        x.due("they part at 0 already", 0, "look 6 0");
        x = house("they part at 120 alone", "");
        x.dueText("c0/6 38/5 40/4 41/0;" + times(2, "c0/6 38/5 40/4 41/0;"), 3);
        x.dueText("c0/6 38/5 40/4 41/0;c0/6 38/5 40/4 41/0;c0/6 38/5 39/4 41/0;r0 1 2;r3 4 5;f6 7;", 6);
        x.lay(0, 0, 100, 5);
        x.due("fits 8 0 -1", 6);
        x.due("look 8 0", 120);
    }

    private static void looksAtMuch() {
        Calls x = house("groups by CURRENT, however much it is", "c0/99 60/0;c0/99 60/0;c0/99 30/0;f0 1 2;");
        x.lay(0, 0);
        // at 0 and 1 whichever CELL is DEAD takes as much; at 2 97 and 95
        x.due("look 3 0", 2);
        x = house("two that never part", "c0/5 10/0;c0/5 10/0;f0 1;");
        x.lay(0, 0, 3, 3);
        x.dueRow("fits 2 0 #", -1, 2, 1, 2);
        x.due("look 2 0", 0);
        x = house("each look by itself", "c0/5 10/0;c0/6 10/0;f0 1;c0/4 10/0;c0/5 20/0;f3 4;");
        x.lay(0, 0);
        x.due("look 2 0", 0);
        x.lay(0, 0, 15, 1);
        // 9 and 5 at 0; 5 was seen there ahead
        x.dueRow("fits 5 0 #", -1, 2, 0, 1);
        x.due("look 5 0", 0);
    }

    private static void allFaults() {
        Calls x = house("a FIELD of 34 CELLS, each under a DIODE", "");
        x.layText(6, times(11, "c0/2 9/0;"));
        x.tell("text 6", "text 6", "text 6");
        x.dueText("c0/2 9/0;r[0] [1] [2] [3] [4] [5] [6] [7];r[8] [9] [10] [11] [12] [13] [14] [15];", 3);
        x.dueText("r[16] [17] [18] [19] [20] [21] [22] [23];r[24] [25] [26] [27] [28] [29] [30] [31];r[32] [33];f34 35 36 37 38;", 4);
        x.due("faults 39", 69);
        x.lay(0, 0);
        x.dueRow("fits 39 0 #", -1, 69, 0, 1);
        x.dueRow("fits 39 0 #", 67, 67, 68, -4);
        // a CELL gives 9, 5, 0: at 10 only the last ROW needs both of its CELLS, at 35 the others need all of theirs
        x.due("current 39 10", 5);
        x.lay(0, 0, 10, 4);
        x.dueRow("fits 39 0 #", -1, 2, 33, 34, -4);
        x.due("current 39 35", 4);
        x.lay(0, 0, 35, 3);
        x.dueRow("fits 39 0 #", -1, 32, 1, 2);
        x.dueRow("fits 39 0 #", 30, 31, 32, -4);
        x.lay(0, 0, 10, 5, 35, 4);
        x.dueRow("fits 39 0 #", -1, 35, 0, 35);
        x.dueRow("fits 39 0 #", 33, 67, 68, -4);
        // the DIODES hold a ROW of 8 at -8, the last ROW at -2
        x.due("current 39 -8", 5 * 99);
        x.due("current 39 -7", 4 * 2 + 99);
        x.due("current 39 -1", 5 * 2);
        x.due("about 39 2", 34);
    }

    private static void faultsOfNone() {
        Calls x = house("FAULTS: 0 none, then CELLS, then DIODES", "c0/5 10/0;b0;c0/5 10/0;r[2];f3;b4;");
        x.dueRow("faults #", 0, 2, 2, 2, 3, 3, 3, -1);
        x.lay(0, 0, -2, 99);
        // under its DIODE the ROW gives -1 at any CURRENT, without it -2 at 6
        x.due("fits 3 0 -1", 2);
        x.dueRow("fits 3 0 #", 0, 0, 1, -4);
        x.lay(0, 0, -2, 6);
        x.dueRow("fits 3 0 #", 0, 2, -4);
        x.dueRow("fits 5 0 #", 0, 2, -4);
    }

    // ---- SHELVES

    private static void shelvesAtFirst() {
        Calls x = house("SHELVES 0 .. 7 hold nothing at first", "");
        for (int d = 0; d < 8; d++) {
            x.dueEach(-11, "text " + d, "sky " + d, "wash " + d + " 0", "washed " + d + " 0 0", "parting " + d + " 0",
                "put " + d + " 0 0", "copy " + d + " 0 " + d + " 0 0", "weight " + d, "toss " + d);
            x.due("element " + d + " 0", STATE);
        }
        for (int d : new int[] {-1, 8}) {
            x.dueEach(-1, "text " + d, "sky " + d, "wash " + d + " 0", "washed " + d + " 0 0", "parting " + d + " 0",
                "put " + d + " 0 0", "copy " + d + " 0 " + d + " 0 0", "weight " + d, "toss " + d);
            x.due("element " + d + " 0", ARGUMENT);
        }
    }

    private static void shelvesFull() {
        Calls x = house("8 SHELVES each hold their own", times(8, "c0/9 9/0;"));
        for (int d = 0; d < 8; d++) {
            x.lay(d, d % 3, d, 10 * d, 100 + d);
        }
        for (int d = 0; d < 8; d++) {
            x.dueRow("element " + d + " #", -1, STATE, d, 10 * d, 100 + d, STATE);
        }
        for (int d = 0; d < 8; d++) {
            x.due("keep " + d + " 1 " + (7 - d), 0);
        }
        for (int d = 0; d < 8; d++) {
            x.due("weight " + d, 10 + 7 - d + 9);
            x.due("toss " + d, 9);
            x.due("element " + d + " 0", STATE);
        }
        x.due("row 3 0 1", 0);
        for (int d = 0; d < 8; d++) {
            x.due("weight " + d, d == 3 ? -12 : 10 + 7 - d + 9);
        }
        for (int d = 0; d < 8; d++) {
            x.due("keep " + d + " 0 0", 0);
            x.due("weight " + d, -11);
        }
    }

    private static void rowsOfElements() {
        Calls x = house("a ROW has 0 .. 120 elements, 0 at first", "");
        for (int sort = 0; sort < 3; sort++) {
            x.due("row 0 " + sort + " 0", 0);
            x.due("element 0 0", STATE);
            x.due("put 0 0 1", -13);
            x.due("copy 0 0 0 0 0", 0);
            x.due("copy 0 0 0 0 1", -13);
            x.due("sky 0", 0);
            x.due("row 0 " + sort + " 1", 0);
            x.dueRow("element 0 #", -1, STATE, 0, STATE);
            x.due("put 0 0 7", 0);
            x.due("put 0 1 7", -13);
            x.due("row 0 " + sort + " 120", 0);
            x.due("element 0 0", 0);
            x.dueRow("element 0 #", 119, 0, STATE);
            x.due("put 0 119 9", 0);
            x.due("put 0 120 9", -13);
            x.due("element 0 119", 9);
            x.due("copy 0 119 0 0 1", 1);
            x.due("copy 0 0 0 0 120", 120);
            x.due("copy 0 0 0 0 121", -13);
            x.due("copy 0 120 0 120 0", 0);
            x.due("element 0 0", 9);
            x.due("row 0 " + sort + " 121", -1);
            x.due("element 0 119", 9);
            x.due("row 0 " + sort + " 119", 0);
            x.due("put 0 119 9", -13);
            x.due("row 0 " + sort + " 120", 0);
            x.due("element 0 119", 0);
        }
    }

    private static void lowestBits() {
        Calls x = house("what is put in keeps its lowest bits", "");
        x.tell("row 0 0 1", "row 1 1 1", "row 2 2 1");
        int[] values = {-129, -128, -127, -1, 0, 1, 127, 128, 255, 256, 257, -32769, -32768, -32767, 32767, 32768, 65535,
            65536, Integer.MIN_VALUE, Integer.MIN_VALUE + 1, Integer.MAX_VALUE, 0x12345678, 0xfedcba98};
        int[] bytes = {127, -128, -127, -1, 0, 1, 127, -128, -1, 0, 1, -1, 0, 1, -1, 0, -1, 0, 0, 1, -1, 0x78, -104};
        int[] shorts = {-129, -128, -127, -1, 0, 1, 127, 128, 255, 256, 257, 32767, -32768, -32767, 32767, -32768, -1,
            0, 0, 1, -1, 0x5678, -17768};
        for (int i = 0; i < values.length; i++) {
            x.dueEach(0, "put 0 0 " + values[i], "put 1 0 " + values[i], "put 2 0 " + values[i]);
            x.due("a byte of " + values[i], bytes[i], "element 0 0");
            x.due("a short of " + values[i], shorts[i], "element 1 0");
            x.due("an int of " + values[i], values[i], "element 2 0");
        }
    }

    private static void copies() {
        Calls x = house("n elements from i on come to j on", "");
        for (int sort = 0; sort < 3; sort++) {
            x.lay(0, sort, 1, 2, 3, 4, 5);
            x.lay(1, sort, 9, 9, 9, 9);
            x.due("copy 0 0 1 0 0", 0);
            x.dueRow("element 1 #", 0, 9, 9, 9, 9);
            x.due("copy 0 1 1 0 4", 4);
            x.dueRow("element 1 #", 0, 2, 3, 4, 5, STATE);
            x.due("copy 0 0 1 3 1", 1);
            x.dueRow("element 1 #", 0, 2, 3, 4, 1);
            x.due("copy 0 4 1 0 1", 1);
            x.dueRow("element 1 #", 0, 5, 3, 4, 1);
            x.due("copy 0 0 0 1 4", 4);
            x.dueRow("element 0 #", 0, 1, 1, 2, 3, 4);
            x.due("copy 0 1 0 0 4", 4);
            x.dueRow("element 0 #", 0, 1, 2, 3, 4, 4);
        }
    }

    private static void keptAsThen() {
        Calls x = house("a PART on a SHELF: all is as it was then", "c0/8 20/0;b0;");
        x.tell("keep 0 1 0", "keep 1 1 1", "set 0 0 50", "box 1 1 1", "image");
        x.dueRow("weight #", 0, 30, 16, -11);
        x.dueRow("toss #", 0, 8, -15, -11);
        x.tell("keep 2 1 0", "keep 3 1 1", "dead 0 true", "box 1 1 40");
        x.dueRow("weight #", 0, 30, 16, 30, 12);
        x.dueRow("toss #", 0, 8, -15, 4, -15);
        x.tell("keep 4 1 0", "keep 5 1 1", "restore");
        x.dueRow("weight #", 0, 30, 16, 30, 12, 30, 51);
        x.dueRow("toss #", 0, 8, -15, 4, -15, -15, -15);
        x.tell("keep 0 0 0", "row 1 0 0");
        x.dueRow("weight #", 0, -11, -12, 30);
        x.dueRow("toss #", 0, -11, -12, 4);
    }

    private static void keptOfImage() {
        Calls x = house("a PART on a SHELF stays when it is no more", "c0/8 20/0;");
        x.tell("image");
        x.dueText("c0/9 30/0;c0/9 60/0;r1 2;", 3);
        x.tell("keep 0 1 1", "keep 1 1 3", "restore");
        x.due("count 0", 1);
        x.dueRow("weight #", 0, 41, 33);
        x.dueRow("toss #", 0, 9, 9);
        x.due("keep 0 1 1", -1);
        x.due("weight 0", 41);
    }

    private static void failures() {
        Calls x = house("FAILURE: CURRENT at PUSH 0; of FIELDS 1000 more; 0: none", "c0/1 9/0;c0/1 9/0;r0;f1;b3;c0/99 1/0;");
        for (int part = 0; part < 6; part++) {
            x.tell("keep " + part + " 1 " + part);
        }
        x.dueRow("toss #", 0, 1, 1, 1, 1001, -15, 99);
        x.tell("set 0 0 99", "set 1 0 99", "set 5 0 1");
        for (int part = 0; part < 6; part++) {
            x.tell("keep " + part + " 1 " + part);
        }
        x.dueRow("toss #", 0, -15, -15, -15, -15, -15, -15);
    }

    // ---- THE IMAGE

    private static void image() {
        Calls x = house("THE IMAGE: there is none at first", "");
        x.due("restore", -3);
        x.due("image", 0);
        x.due("restore", 0);
        x.dueText("c0/9 9/0;", 1);
        x.due("restore", 0);
        x.dueEach(0, "count 0", "count 1");
        x.dueText("c0/8 8/0;b0;", 2);
        x.due("image", 2);
        x.due("of THE IMAGE only the last", 2, "restore");
        x.due("point 0 1 0", 8);
        x.due("about 0 4", 1);
    }

    private static void imageWithoutShelves() {
        Calls x = house("but SHELVES (and THE IMAGE)", "c0/9 9/0;");
        x.lay(0, 0, 5);
        x.tell("keep 1 1 0", "image", "put 0 0 6", "keep 1 0 0");
        x.lay(2, 2, 7);
        x.due("restore", 1);
        x.due("element 0 0", 6);
        x.due("weight 1", -11);
        x.due("element 2 0", 7);
        x.due("restore", 1);
    }

    private static void imageFreesParts() {
        Calls x = house("what was in none is in none again", "c0/9 9/0;c0/9 9/0;");
        x.tell("image");
        x.dueText("r0 1;f2;b3;", 3);
        x.due("restore", 2);
        x.dueRow("about # 4", 0, -4, -4, -1);
        x.dueText("f0;r1;", 2);
        x.dueRow("about # 4", 0, 2, 3, -4, -4);
    }

    public static void main(String[] args) {
        curves();
        parts();
        texts();
        whatPartsGive();
        boxes();
        roofs();
        skies();
        plans();
        faults();
        shelves();
        images();
        Calls.end("BoundTests");
    }

    private static void curves() {
        points();
        pushes();
        currents();
        shares();
        settingsOfOthers();
        warmth();
        pushOfCell();
        backward();
    }

    private static void parts() {
        diodes();
        diodesOfSeveralGroups();
        currentOfRow();
        pushOfField();
        groupsOfRow();
        membersOfField();
        greatField();
        diodesInField();
        boxGives();
        inOneOther();
    }

    private static void texts() {
        textOfOneStatement();
        textOf120();
        digits();
        blanks();
        bytesThatGoOn();
        shapeAheadOfBounds();
        firstFaultOfKind2();
        partNumber40();
    }

    private static void whatPartsGive() {
        bestPush();
        humps();
        dimmest();
        hot();
    }

    private static void boxes() {
        boxAtEnds();
        boxByItsStep();
        boxTurns();
        led();
    }

    private static void roofs() {
        shadesInCut();
        shadesToEdges();
        shadesReach();
        lit();
        allWalls();
    }

    private static void skies() {
        gapsOfEachSort();
        gapsAround();
        gapsFromDayToDay();
        strengthAtEnds();
        lightOfHour();
    }

    private static void plans() {
        washDays();
        dirtAtMost();
        washTies();
        washShorter();
        partingOfMany();
        partingSets();
        partingEachOne();
        storeAtEnds();
        storeFull();
        lossesOfSets();
        lossesOfAllCells();
    }

    private static void faults() {
        measured();
        measuredBelow0();
        measuredAbove127();
        looks();
        looksAtMuch();
        allFaults();
        faultsOfNone();
    }

    private static void shelves() {
        shelvesAtFirst();
        shelvesFull();
        rowsOfElements();
        lowestBits();
        copies();
        keptAsThen();
        keptOfImage();
        failures();
    }

    private static void images() {
        image();
        imageWithoutShelves();
        imageFreesParts();
    }
}
