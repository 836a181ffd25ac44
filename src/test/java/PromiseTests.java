/**
 * A test for each promise of the document, its answers worked out by hand: ordinary inputs, the edges that the
 * document names, wrong inputs in the order of their refusals. Each promise stands in a method of its own number.
 */
public final class PromiseTests {
    private static int checks = 0;
    private static int wrong = 0;
    private static String promise = "";
    private static SunHouse x;

    // ---- how a check is said

    private static void due(String call, long got, long want) {
        checks++;
        if (got != want) {
            wrong++;
            System.out.println(promise + ": " + call + " answered " + got + ", due is " + want);
        }
    }

    /** What a call that may throw gives: its answer, or far below all answers a number for the exception. */
    private static final long ILLEGAL_ARGUMENT = -1000001;
    private static final long ILLEGAL_STATE = -1000002;

    private static long push(int part, int c) {
        try {
            return x.push(part, c);
        } catch (IllegalArgumentException e) {
            return ILLEGAL_ARGUMENT;
        }
    }

    private static long loss(int part, int cause, boolean all) {
        try {
            return x.loss(part, cause, all);
        } catch (IllegalArgumentException e) {
            return ILLEGAL_ARGUMENT;
        }
    }

    private static long element(int d, int i) {
        try {
            return x.element(d, i);
        } catch (IllegalArgumentException e) {
            return ILLEGAL_ARGUMENT;
        } catch (IllegalStateException e) {
            return ILLEGAL_STATE;
        }
    }

    /** Puts a ROW into a SHELF. */
    private static void lay(int d, int sort, int... values) {
        x.row(d, sort, values.length);
        for (int i = 0; i < values.length; i++) {
            x.put(d, i, values[i]);
        }
    }

    private static int tell(String text) {
        int[] bytes = new int[text.length()];
        for (int i = 0; i < bytes.length; i++) {
            bytes[i] = text.charAt(i);
        }
        lay(7, 0, bytes);
        return x.text(7);
    }

    /** A new object that was told a text. */
    private static void begin(String name, String text) {
        promise = name;
        x = new SunHouse();
        if (!text.isEmpty()) {
            int n = (int) text.chars().filter(c -> c == ';').count();
            due("text " + text, tell(text), n);
        }
    }

    /** 0, 1 CELLS; 2 a ROW of 0 and, under a DIODE, 1; 3 a CELL; 4 a FIELD of 2 and 3; 5 a BOX over 4. */
    private static final String HOUSE = "c0/9 20/8 30/0;c0/6 25/0;r0 [1];c0/4 20/0;f2 3;b4;";

    // ---- the promises

    private static void promise1() {
        begin("1", "");
        for (int what = 0; what <= 8; what++) {
            due("count(" + what + ")", x.count(what), 0);
        }
        due("about(0, 0)", x.about(0, 0), -1);
        due("restore()", x.restore(), -3);
        due("weight(7)", x.weight(7), -11);
        due("sun(0, 0, 0)", x.sun(0, 0, 0), 0);
        due("sun(11, 0, 0)", x.sun(11, 0, 0), 0);
        due("trade(11, 0)", x.trade(11, 0), 0);
        due("wall(9, 0, 0, 0)", x.wall(9, 0, 0, 0), 0);
        due("strength(0, 0)", x.strength(0, 0), 0);
        due("sells(-1)", x.sells(-1), 0);
    }

    private static void fault(String text, int want) {
        int before = x.count(0);
        due("text " + text, tell(text), want);
        due("count(0) behind " + text, x.count(0), before);
    }

    private static void promise2() {
        begin("2", HOUSE);
        due("count(0)", x.count(0), 6);
        due("a later text goes on", tell("c0/1 1/0;r6;"), 2);
        due("about(7, 1)", x.about(7, 1), 1);
        due("text(8)", x.text(8), -1);
        due("text(-1)", x.text(-1), -1);
        due("text(6)", x.text(6), -11);
        x.keep(6, 1, 0);
        due("text(6) of a PART", x.text(6), -12);
        x.row(6, 1, 0);
        due("text(6) of shorts", x.text(6), -12);
        x.row(6, 2, 0);
        due("text(6) of ints", x.text(6), -12);
    }

    private static void promise2Shapes() {
        begin("2 kind 1", "");
        fault("", -1000);
        fault("x", -1000);
        fault(" c0/1 1/0;", -1000);
        fault(";", -1000);
        fault("c", -1001);
        fault("c0", -1002);
        fault("c/", -1001);
        fault("c0/", -1003);
        fault("c0/1", -1004);
        fault("c0/1 1/0", -1008);
        fault("c 0/1 1/0;", -1001);
        fault("c0;", -1002);
        fault("c0 1;", -1002);
        fault("c0/1/2;", -1004);
        fault("c00/1 1/0;", -1002);
        fault("c0/01 1/0;", -1004);
        fault("c0/123 1/0;", -1005);
        fault("c0/1  1/0;", -1005);
        fault("c0/1 1/0; ", -1009);
        fault("c0/1 1/0;;", -1009);
        fault("r;", -1001);
        fault("r[];", -1002);
        fault("r[0;", -1003);
        fault("r[0 ];", -1004);
        fault("r[0 [1]];", -1004);
        fault("r0];", -1002);
        fault("r[0]1;", -1004);
        fault("r[1]2;", -1004);
        fault("r[1 2]3;", -1006);
        fault("r[0] ;", -1005);
        fault("r0[1];", -1002);
        fault("r0/1;", -1002);
        fault("f[0];", -1001);
        fault("f0 1", -1004);
        fault("f0 1 ;", -1005);
        fault("b0 1;", -1002);
        fault("b;", -1001);
        fault("b[0];", -1001);
        fault("b100;", -1003);
        // kind 1 goes ahead of kind 2, wherever it is
        fault("b99;c0/0 0/0;r1 1;q", -1018);
        fault("c0/1 1/0;c0/1 1/0", -1017);
        x.row(7, 0, 1);
        x.put(7, 0, -1);
        due("a byte below 0", x.text(7), -1000);
        x.put(7, 0, 99 + 256);
        due("the lowest bits are c", x.text(7), -1001);
    }

    private static void promise2Statements() {
        begin("2 kind 2", "");
        fault("c0/1;", -2000);
        fault("c0/9 1/8 2/7 3/6 4/5 5/4 6/0;", -2000);
        fault("c1/9 2/0;", -2000);
        fault("c0/9 61/0;", -2000);
        fault("c0/9 10/5 10/0;", -2000);
        fault("c0/9 10/5 9/0;", -2000);
        fault("c0/9 10/10 20/0;", -2000);
        fault("c0/9 10/1;", -2000);
        fault("c0/0 10/0;", -2000);
        due("6 POINTS, the widest", tell("c0/99 1/98 2/97 3/96 4/95 60/0;"), 1);
        fault("c0/5 10/5 20/0;", -2000);
        fault("c0/5 30/0 31/0;", -2000);
        fault("c0/9 1/8 2/7 3/7 4/6 5/0;", -2000);
        fault("c0/9 1/8 2/7 3/6 4/0 5/0;", -2000);
        fault("c0/9 10/8;", -2000);
        due("falling by 1", tell("c0/2 1/1 2/0;"), 1);
        fault("c0/2 1/1 2/0;c0/8 20/8 30/0;r2;", -2013);
        fault("r2;", -2000);
        fault("r0 0;", -2000);
        fault("r[0 1] 0;", -2000);
        fault("r0;r0;", -2003);
        fault("r0;f0;", -2003);
        fault("r0;b0;", -2003);
        fault("r0;r2;", -2003);
        fault("b0;b2;", -2003);
        fault("b0;f2;", -2003);
        fault("f0;r2;", -2003);
        fault("f0;f2;", -2003);
        fault("f0 99;", -2000);
        fault("r2;c0/1 1/0;", -2000);
        fault("c0/1 1/0;c0/0 1/0;r7;", -2009);
        fault("c0/1 1/0;r[0 1] 9;", -2009);
        due("all were free still", tell("r0;f2 1;b3;"), 3);
        due("about(2, 1)", x.about(2, 1), 1);
        due("about(2, 2)", x.about(2, 2), 0);
        due("about(3, 1)", x.about(3, 1), 2);
        fault("b2;", -2000);
        fault("r0;", -2000);
    }

    private static void promise2Bounds() {
        begin("2 bounds", "c0/1 1/0;c0/1 1/0;c0/1 1/0;c0/1 1/0;c0/1 1/0;c0/1 1/0;c0/1 1/0;c0/1 1/0;c0/1 1/0;c0/1 1/0;");
        fault("r0 1 2 3 4 5 6 7 8;", -2000);
        fault("r[0 1 2 3] [4 5 6 7] 8;", -2000);
        fault("f0 1 2 3 4 5 6;", -2000);
        due("8 CELLS, 2 DIODES", tell("r[0 1 2 3] [4 5 6] 7;"), 1);
        due("about(10, 2)", x.about(10, 2), 2);
        for (int k = 0; k < 2; k++) {
            due("10 more", tell("c0/1 1/0;c0/1 1/0;c0/1 1/0;c0/1 1/0;c0/1 1/0;c0/1 1/0;c0/1 1/0;c0/1 1/0;c0/1 1/0;c0/1 1/0;"), 10);
        }
        due("f of 6", tell("f11 12 13 14 15 10;"), 1);
        due("all 6 give", x.current(31, 0), 6);
        due("all their CELLS", x.about(31, 1), 13);
        due("7 more", tell("c0/1 1/0;c0/1 1/0;c0/1 1/0;c0/1 1/0;c0/1 1/0;c0/1 1/0;c0/1 1/0;"), 7);
        due("count(0)", x.count(0), 39);
        fault("c0/1 1/0;c0/1 1/0;", -2009);
        fault("c0/1 1/0;b38;", -2009);
        due("number 39", tell("b38;"), 1);
        fault("c0/1 1/0;", -2000);
        due("about(39, 4)", x.about(39, 4), -4);
        due("about(38, 4)", x.about(38, 4), 39);
        due("about(40, 4)", x.about(40, 4), -1);
    }

    private static void promise3() {
        begin("3", HOUSE);
        int[][] want = {{0, 1, 0, 3, 2}, {0, 1, 0, 2, 2}, {1, 2, 1, 2, 4}, {0, 1, 0, 2, 4}, {2, 3, 1, 2, 5}, {3, 3, 1, 1, -4}};
        for (int part = 0; part < 6; part++) {
            for (int what = 0; what < 5; what++) {
                due("about(" + part + ", " + what + ")", x.about(part, what), want[part][what]);
            }
        }
        due("about(6, 0)", x.about(6, 0), -1);
        due("about(-1, 0)", x.about(-1, 0), -1);
        due("about(0, 5)", x.about(0, 5), -1);
        due("about(0, -1)", x.about(0, -1), -1);
        due("GROUPS", tell("c0/1 1/0;c0/1 1/0;c0/1 1/0;r[6 7] 8;b9;"), 5);
        due("about(9, 3)", x.about(9, 3), 2);
        due("about(10, 1)", x.about(10, 1), 3);
        due("about(10, 2)", x.about(10, 2), 1);
    }

    private static void promise4() {
        begin("4", HOUSE);
        due("point(0, 1, 0)", x.point(0, 1, 0), 20);
        due("point(0, 1, 1)", x.point(0, 1, 1), 8);
        due("point(0, 2, 0)", x.point(0, 2, 0), 30);
        x.set(0, 0, 90);
        x.set(0, 1, 50);
        x.set(0, 2, 10);
        x.set(0, 3, 33);
        // SHARE 90 * 50 * 90 / 10000 = 40
        due("9 by 40", x.point(0, 0, 1), 3);
        due("8 by 40", x.point(0, 1, 1), 3);
        due("20 less 6", x.point(0, 1, 0), 14);
        due("30 less 9", x.point(0, 2, 0), 21);
        x.dead(0, true);
        due("a DEAD one", x.point(0, 0, 1), 0);
        due("its PUSH", x.point(0, 2, 0), 21);
        due("SHARE 40 of 99", tell("c0/99 1/0;"), 1);
        x.set(6, 0, 90);
        x.set(6, 1, 50);
        x.set(6, 2, 10);
        due("99 by 40", x.point(6, 0, 1), 39);
        due("no such POINT", x.point(0, 3, 0), -1);
        due("point(1, 2, 0)", x.point(1, 2, 0), -1);
        due("point(0, -1, 0)", x.point(0, -1, 0), -1);
        due("point(0, 0, 2)", x.point(0, 0, 2), -1);
        due("point(0, 0, -1)", x.point(0, 0, -1), -1);
        due("point(7, 0, 0)", x.point(7, 0, 0), -1);
        due("point(2, 0, 0)", x.point(2, 0, 0), -3);
        due("point(2, 0, 2)", x.point(2, 0, 2), -1);
        due("point(5, 0, 0)", x.point(5, 0, 0), -3);
    }

    private static void promise5() {
        begin("5", HOUSE);
        int[] most = {100, 50, 50, 40};
        int[] first = {100, 0, 0, 0};
        for (int what = 0; what < 4; what++) {
            due("set(1, what, most)", x.set(1, what, most[what]), first[what]);
            due("set(1, what, 7)", x.set(1, what, 7), most[what]);
            due("set(1, what, too much)", x.set(1, what, most[what] + 1), -1);
            due("set(1, what, -1)", x.set(1, what, -1), -1);
            due("set(1, what, 0)", x.set(1, what, 0), 7);
            due("set(2, what, 0)", x.set(2, what, 0), -3);
            due("set(2, what, -1)", x.set(2, what, -1), -1);
        }
        due("another CELL", x.set(0, 0, 100), 100);
        due("set(0, 4, 0)", x.set(0, 4, 0), -1);
        due("set(0, -1, 0)", x.set(0, -1, 0), -1);
        due("set(6, 0, 0)", x.set(6, 0, 0), -1);
        due("set(4, 0, 0)", x.set(4, 0, 0), -3);
        due("set(5, 0, 0)", x.set(5, 0, 0), -3);
    }

    private static void promise6() {
        begin("6", HOUSE);
        due("dead(1, false)", x.dead(1, false), 0);
        due("dead(1, true)", x.dead(1, true), 1);
        due("dead(1, true)", x.dead(1, true), 0);
        due("count(5)", x.count(5), 1);
        due("dead(1, false)", x.dead(1, false), 1);
        due("count(5)", x.count(5), 0);
        due("dead(6, true)", x.dead(6, true), -1);
        due("dead(-1, true)", x.dead(-1, true), -1);
        due("dead(2, true)", x.dead(2, true), -3);
        due("dead(4, true)", x.dead(4, true), -3);
        due("dead(5, true)", x.dead(5, true), -3);
    }

    private static void promise7() {
        begin("7", HOUSE);
        due("push(0, 0)", push(0, 0), 30);
        due("push(0, 4)", push(0, 4), 25);
        due("push(0, 8)", push(0, 8), 20);
        due("push(0, 9)", push(0, 9), 0);
        due("push(0, 10)", push(0, 10), -2);
        due("push(0, 18)", push(0, 18), -18);
        due("push(0, 19)", push(0, 19), -20);
        due("push(0, 20)", push(0, 20), -20);
        due("push(0, 999)", push(0, 999), -20);
        // 25 less 25 by 6, cut to 4
        due("push(1, 1)", push(1, 1), 21);
        due("push(2, 6)", push(2, 6), 23);
        due("the DIODE lets pass", push(2, 8), 19);
        due("push(2, 999)", push(2, 999), -21);
        // at 19 the ROW gives 8 and the CELL 0
        due("push(4, 8)", push(4, 8), 19);
        due("push(4, 0)", push(4, 0), 999);
        due("push(4, 12) at 0 alone", push(4, 12), 0);
        due("push(4, 13)", push(4, 13), -1);
        due("push(4, 999)", push(4, 999), -1);
        due("a BOX", push(5, 8), 19);
        due("push(0, -1)", push(0, -1), ILLEGAL_ARGUMENT);
        due("push(0, 1000)", push(0, 1000), ILLEGAL_ARGUMENT);
        due("push(6, 0)", push(6, 0), ILLEGAL_ARGUMENT);
        due("push(-1, 0)", push(-1, 0), ILLEGAL_ARGUMENT);
        x.dead(0, true);
        due("a DEAD one at 0", push(0, 0), 30);
        due("a DEAD one at 1", push(0, 1), -2);
        due("one that LIGHT makes flat", tell("c0/6 10/5 20/1 30/0;"), 1);
        due("push(6, 5)", push(6, 5), 10);
        due("push(6, 6)", push(6, 6), 0);
        x.set(6, 0, 35);
        // CURRENTS 2, 1, 0, 0
        due("push(6, 2)", push(6, 2), 0);
        due("push(6, 1)", push(6, 1), 10);
        due("push(6, 0)", push(6, 0), 30);
        x.set(6, 0, 30);
        // CURRENTS 1, 1, 0, 0
        due("push(6, 1)", push(6, 1), 10);
        due("push(6, 2)", push(6, 2), -2);
    }

    private static void promise7Groups() {
        begin("7 groups", "c0/2 10/0;c0/4 10/0;c0/9 10/0;r[0 1] 2;");
        // 0 gives -12, 1 gives -8, 2 gives 2
        due("under one DIODE", push(3, 8), 1);
        // 0 gives -2, 1 gives 3, 2 gives 7
        due("above -1 together", push(3, 3), 8);
        // 0 gives -4, 1 gives 0, 2 gives 6
        due("-4 is held at -1", push(3, 4), 5);
    }

    private static void promise8() {
        begin("8", HOUSE);
        due("current(0, 0)", x.current(0, 0), 9);
        due("current(0, 20)", x.current(0, 20), 8);
        due("current(0, 21)", x.current(0, 21), 7);
        due("current(0, 30)", x.current(0, 30), 0);
        due("current(0, 31)", x.current(0, 31), 0);
        due("current(0, -1)", x.current(0, -1), 9);
        due("current(0, -2)", x.current(0, -2), 10);
        due("current(0, -19)", x.current(0, -19), 18);
        due("current(0, -20)", x.current(0, -20), 99);
        due("current(0, -50)", x.current(0, -50), 99);
        due("current(0, 999)", x.current(0, 999), 0);
        due("current(2, 20)", x.current(2, 20), 7);
        due("current(2, 19)", x.current(2, 19), 8);
        due("current(4, 10)", x.current(4, 10), 8 + 2);
        due("current(4, -50)", x.current(4, -50), 99 + 99);
        due("current(5, 10)", x.current(5, 10), 10);
        due("current(0, -51)", x.current(0, -51), -1);
        due("current(0, 1000)", x.current(0, 1000), -1);
        due("current(6, 0)", x.current(6, 0), -1);
    }

    private static void promise9() {
        begin("9", "c0/9 20/8 30/0;c0/4 20/0;f1;b2;c0/2 10/1 20/0;");
        due("best(0, 0)", x.best(0, 0), 160);
        due("best(0, 1)", x.best(0, 1), 20);
        due("best(0, 2)", x.best(0, 2), 8);
        // PUSH 20, 15, 10, 5, 0: POWER 15 at 15, 20 at 10, 15 at 5
        due("best(1, 0)", x.best(1, 0), 20);
        due("best(1, 1)", x.best(1, 1), 10);
        due("best(1, 2)", x.best(1, 2), 2);
        due("best(3, 1)", x.best(3, 1), 10);
        due("best(4, 1)", x.best(4, 1), 10);
        x.dead(1, true);
        due("nothing", x.best(1, 0), 0);
        due("nothing at 0", x.best(1, 1), 0);
        due("nothing gives", x.best(1, 2), 0);
        due("best(5, 0)", x.best(5, 0), -1);
        due("best(-1, 0)", x.best(-1, 0), -1);
        due("best(0, 3)", x.best(0, 3), -1);
        due("best(0, -1)", x.best(0, -1), -1);
        // two of the same POWER: 6 at 10 and 3 at 20
        due("a text", tell("c0/7 10/6 11/4 20/3 21/0;"), 1);
        due("the least u", x.best(5, 1), 10);
        due("both 60", x.best(5, 0), 60);
    }

    private static void promise10() {
        begin("10", "c0/2 10/1 20/0;c0/7 10/6 20/3 21/0;");
        due("hump(0, -1)", x.hump(0, -1), 1);
        due("hump(0, 0)", x.hump(0, 0), 10);
        due("hump(0, 1)", x.hump(0, 1), -4);
        due("hump(0, -2)", x.hump(0, -2), -1);
        due("hump(2, 0)", x.hump(2, 0), -1);
        due("hump(-1, -1)", x.hump(-1, -1), -1);
        // CURRENT 6 up to 10, 5 up to 14, 4 up to 17, 3 up to 20, 2 at 21
        due("hump(1, -1)", x.hump(1, -1), 4);
        due("hump(1, 0)", x.hump(1, 0), 10);
        due("hump(1, 1)", x.hump(1, 1), 14);
        due("hump(1, 2)", x.hump(1, 2), 17);
        due("hump(1, 3)", x.hump(1, 3), 20);
        due("hump(1, 4)", x.hump(1, 4), -4);
        x.dead(0, true);
        due("none", x.hump(0, -1), 0);
        due("none there", x.hump(0, 0), -4);
        // POWER 2 at 1 (2 by 1), 2 at 2 (1 by 2): a flat top counts at its first u
        due("a flat top", tell("c0/3 1/2 2/1 3/0;"), 1);
        due("hump(2, -1)", x.hump(2, -1), 1);
        due("hump(2, 0)", x.hump(2, 0), 1);
    }

    private static void promise11() {
        begin("11", "c0/5 10/0;c0/9 10/0;c0/5 10/0;c0/2 10/0;r0 [1 2] [3];f4;");
        // at 7: 0 gives -4, 1 gives 3, 2 gives -4, 3 gives -10
        due("held(4, 7, 0)", x.held(4, 7, 0), 3);
        due("held(4, 7, 1)", x.held(4, 7, 1), 1);
        due("held(4, 7, 2)", x.held(4, 7, 2), 3);
        due("held(4, 0, 0) the first of equals", x.held(4, 0, 0), 0);
        due("held(4, 0, 1)", x.held(4, 0, 1), 0);
        due("held(4, 0, 2)", x.held(4, 0, 2), 0);
        // at 9: 1 gives 0, 2 gives -8
        due("held(4, 9, 1)", x.held(4, 9, 1), 2);
        due("held(4, 9, 2)", x.held(4, 9, 2), 3);
        due("held(4, 2, 2) at the first CURRENT", x.held(4, 2, 2), 0);
        due("held(4, 3, 2)", x.held(4, 3, 2), 1);
        due("held(4, 99, 2)", x.held(4, 99, 2), 4);
        due("held(4, 99, 0)", x.held(4, 99, 0), 0);
        due("held(4, 100, 0)", x.held(4, 100, 0), -1);
        due("held(4, -1, 0)", x.held(4, -1, 0), -1);
        due("held(4, 0, 3)", x.held(4, 0, 3), -1);
        due("held(4, 0, -1)", x.held(4, 0, -1), -1);
        due("held(6, 0, 0)", x.held(6, 0, 0), -1);
        due("held(0, 0, 0)", x.held(0, 0, 0), -3);
        due("held(5, 0, 0)", x.held(5, 0, 0), -3);
        due("held(5, 100, 0)", x.held(5, 100, 0), -1);
    }

    private static void promise11Edge() {
        begin("11 edge", "c0/4 10/0;c0/9 10/0;r[0] [1];b2;");
        // at 4 the DIODE of 0 sees 0, at 5 it sees -2
        due("held(2, 4, 1)", x.held(2, 4, 1), 0);
        due("held(2, 5, 1)", x.held(2, 5, 1), 1);
        x.set(1, 0, 10);
        due("the second is dimmer", x.held(2, 2, 0), 1);
        x.set(1, 0, 100);
        due("a BOX is no ROW", x.held(3, 5, 1), -3);
        // together -1 does not let pass: at 5, 0 gives -2 and 2 gives 1
        due("a text", tell("c0/4 10/0;c0/5 10/4 11/0;c0/9 1/5 2/0;r[4 6];"), 4);
        due("held(7, 5, 1)", x.held(7, 5, 1), 0);
        due("held(7, 6, 1)", x.held(7, 6, 1), 1);
    }

    private static void promise12() {
        begin("12", HOUSE);
        due("box(5, 0, 500)", x.box(5, 0, 500), 0);
        due("box(5, 0, 0)", x.box(5, 0, 0), 500);
        due("box(5, 1, 40)", x.box(5, 1, 40), 5);
        due("box(5, 1, 1)", x.box(5, 1, 1), 40);
        due("box(5, 0, 501)", x.box(5, 0, 501), -1);
        due("box(5, 0, -1)", x.box(5, 0, -1), -1);
        due("box(5, 1, 0)", x.box(5, 1, 0), -1);
        due("box(5, 1, 41)", x.box(5, 1, 41), -1);
        due("box(5, 2, 1)", x.box(5, 2, 1), -1);
        due("box(5, -1, 1)", x.box(5, -1, 1), -1);
        due("box(6, 0, 0)", x.box(6, 0, 0), -1);
        due("box(0, 0, 0)", x.box(0, 0, 0), -3);
        due("box(4, 1, 5)", x.box(4, 1, 5), -3);
        due("box(4, 1, 0)", x.box(4, 1, 0), -1);
        due("STEP is 1, it goes up", x.seek(5, 3), 3);
    }

    private static void promise12Forgets() {
        begin("12 forgets", "c0/10 20/9 30/0;b0;");
        // it goes down at once behind 20: POWER 180 at 20, 100 at 25
        due("seek(1, 5)", x.seek(1, 5), 25);
        due("seek(1, 1)", x.seek(1, 1), 20);
        due("box(1, 1, 5)", x.box(1, 1, 5), 5);
        due("up again, nothing measured ahead", x.seek(1, 1), 25);
        due("seek(1, 1)", x.seek(1, 1), 20);
        due("box(1, 0, 28)", x.box(1, 0, 28), 20);
        due("POWER at 28 is less, but forgotten", x.seek(1, 1), 33);
    }

    private static void promise13() {
        begin("13", "c0/10 20/9 30/0;b0;");
        int[] want = {5, 10, 15, 20, 25, 20, 15, 20, 25, 20};
        for (int u : want) {
            due("seek(1, 1)", x.seek(1, 1), u);
        }
        due("seek(1, 7)", x.seek(1, 7), 25);
        x.box(1, 0, 480);
        due("equal POWER is not less", x.seek(1, 4), 500);
        due("on the last u it has not turned", x.seek(1, 1), 500);
        due("then it has", x.seek(1, 1), 495);
        due("down to 0", x.seek(1, 93), 30);
        x.dead(0, true);
        due("POWER 0 all the way", x.seek(1, 6), 0);
        due("where it would be below 0", x.seek(1, 1), 0);
        due("it turned around", x.seek(1, 1), 5);
        due("seek(1, 100)", x.seek(1, 100), 500);
        due("seek(1, 0)", x.seek(1, 0), -1);
        due("seek(1, 101)", x.seek(1, 101), -1);
        due("seek(2, 1)", x.seek(2, 1), -1);
        due("seek(0, 1)", x.seek(0, 1), -3);
        due("seek(0, 0)", x.seek(0, 0), -1);
    }

    private static void promise14() {
        begin("14", "c0/10 20/9 30/0;b0;");
        due("led(1, 20, 0)", x.led(1, 20, 0), 0);
        due("led(1, 15, 0) STEP off", x.led(1, 15, 0), 0);
        due("led(1, 25, 0)", x.led(1, 25, 0), 0);
        due("led(1, 14, 0)", x.led(1, 14, 0), -4);
        due("led(1, 14, 1)", x.led(1, 14, 1), 1);
        due("led(1, 0, 200)", x.led(1, 0, 200), 3);
        due("led(1, 0, 2)", x.led(1, 0, 2), -4);
        due("led(1, 26, 3)", x.led(1, 26, 3), 3);
        due("to 500, there once more, and back", x.led(1, 495, 200), 97);
        due("led(1, 495, 97)", x.led(1, 495, 97), 97);
        due("led(1, 495, 96)", x.led(1, 495, 96), -4);
        due("it stands where it stood", x.seek(1, 1), 5);
        x.box(1, 1, 40);
        due("its own STEP", x.led(1, 60, 0), 0);
        due("led(1, 61, 0)", x.led(1, 61, 0), -4);
        due("led(1, 500, 0)", x.led(1, 500, 0), -4);
        due("led(1, 501, 0)", x.led(1, 501, 0), -1);
        due("led(1, -1, 0)", x.led(1, -1, 0), -1);
        due("led(1, 0, 201)", x.led(1, 0, 201), -1);
        due("led(1, 0, -1)", x.led(1, 0, -1), -1);
        due("led(2, 0, 0)", x.led(2, 0, 0), -1);
        due("led(0, 0, 0)", x.led(0, 0, 0), -3);
    }

    private static void promise15() {
        begin("15", HOUSE);
        due("lies(0, 0, 0)", x.lies(0, 0, 0), 1);
        due("lies(0, 0, 1911)", x.lies(0, 0, 1911), 240);
        due("lies(0, 1900, 1900)", x.lies(0, 1900, 1900), 1);
        due("lies(0, 11, 111)", x.lies(0, 11, 111), 2);
        due("lies(0, 203, 405)", x.lies(0, 203, 405), 9);
        due("x upside down", x.lies(0, 403, 305), -1);
        due("y upside down", x.lies(0, 305, 404), -1);
        due("y 12", x.lies(0, 0, 112), -1);
        due("x 20", x.lies(0, 0, 2000), -1);
        due("from 12", x.lies(0, 12, 1911), -1);
        due("from -1", x.lies(0, -1, 0), -1);
        due("to -100", x.lies(0, 0, -100), -1);
        due("lies(6, 0, 0)", x.lies(6, 0, 0), -1);
        due("lies(2, 0, 0)", x.lies(2, 0, 0), -3);
        due("lies(2, 1, 0)", x.lies(2, 1, 0), -1);
        x.wall(0, 2, 3, 1);
        due("it lies where it was told last", x.lit(0, 0), 88);
        due("it moves", x.lies(0, 303, 303), 1);
        due("lit(0, 0)", x.lit(0, 0), 100);
    }

    private static void promise16() {
        begin("16", "c0/1 1/0;");
        due("wall(0, 19, 11, 30)", x.wall(0, 19, 11, 30), 0);
        due("wall(0, 0, 0, 1)", x.wall(0, 0, 0, 1), 30);
        due("wall(9, 0, 0, 7)", x.wall(9, 0, 0, 7), 0);
        due("count(6)", x.count(6), 2);
        due("gone", x.wall(0, 0, 0, 0), 1);
        due("count(6)", x.count(6), 1);
        due("it was gone", x.wall(0, 0, 0, 0), 0);
        due("wall(10, 0, 0, 1)", x.wall(10, 0, 0, 1), -1);
        due("wall(-1, 0, 0, 1)", x.wall(-1, 0, 0, 1), -1);
        due("wall(0, 20, 0, 1)", x.wall(0, 20, 0, 1), -1);
        due("wall(0, -1, 0, 1)", x.wall(0, -1, 0, 1), -1);
        due("wall(0, 0, 12, 1)", x.wall(0, 0, 12, 1), -1);
        due("wall(0, 0, -1, 1)", x.wall(0, 0, -1, 1), -1);
        due("wall(0, 0, 0, 31)", x.wall(0, 0, 0, 31), -1);
        due("wall(0, 0, 0, -1)", x.wall(0, 0, 0, -1), -1);
        due("count(6)", x.count(6), 1);
        x.lies(0, 0, 0);
        due("its own PLACE, without LENGTH", x.lit(0, 0), 0);
        x.wall(9, 0, 0, 0);
        due("a WALL that is gone", x.lit(0, 0), 100);
    }

    private static void promise17() {
        begin("17", "");
        due("sun(0, 7, 30)", x.sun(0, 7, 30), 0);
        due("sun(0, 0, 0)", x.sun(0, 0, 0), 730);
        due("sun(11, 3, 4)", x.sun(11, 3, 4), 0);
        due("sun(11, 3, 4)", x.sun(11, 3, 4), 304);
        due("sun(12, 0, 0)", x.sun(12, 0, 0), -1);
        due("sun(-1, 0, 0)", x.sun(-1, 0, 0), -1);
        due("sun(0, 8, 0)", x.sun(0, 8, 0), -1);
        due("sun(0, -1, 0)", x.sun(0, -1, 0), -1);
        due("sun(0, 0, 31)", x.sun(0, 0, 31), -1);
        due("sun(0, 0, -1)", x.sun(0, 0, -1), -1);
    }

    private static void promise18() {
        begin("18", "c0/1 1/0;c0/1 1/0;r1;b2;");
        x.wall(0, 10, 6, 10);
        int[] around = {1106, 1107, 1007, 907, 906, 905, 1005, 1105};
        for (int direction = 0; direction < 8; direction++) {
            x.sun(3, direction, 1);
            for (int k = 0; k < 8; k++) {
                x.lies(0, around[k], around[k]);
                due("direction " + direction + " at " + around[k], x.lit(0, 3), k == direction ? 0 : 100);
            }
        }
        due("another HOUR", x.lit(0, 4), 100);
        x.lies(0, 1006, 1006);
        due("its own PLACE", x.lit(0, 4), 0);
        // HEIGHT 7 by LENGTH 9: 63 by 10, 6 PLACES on
        x.wall(0, 2, 0, 7);
        x.sun(0, 0, 9);
        x.lies(0, 0, 1000);
        due("11 PLACES, 7 shaded", x.lit(0, 0), 36);
        x.lies(0, 0, 1901);
        due("40 PLACES, 7 shaded", x.lit(0, 0), 82);
        x.wall(1, 4, 0, 1);
        due("no PLACE is shaded twice", x.lit(0, 0), 82);
        due("one that lies nowhere", x.lit(1, 0), 100);
        x.wall(2, 0, 0, 1);
        due("nor by a WALL anywhere", x.lit(1, 0), 100);
        x.wall(3, 19, 2, 30);
        x.wall(4, 0, 9, 30);
        x.sun(5, 0, 30);
        x.lies(0, 3, 3);
        due("no shade comes round to the west", x.lit(0, 5), 100);
        x.sun(5, 4, 30);
        x.lies(0, 1908, 1908);
        due("nor to the east", x.lit(0, 5), 100);
        due("lit(2, 0)", x.lit(2, 0), -3);
        due("lit(3, 0)", x.lit(3, 0), -3);
        due("lit(0, 12)", x.lit(0, 12), -1);
        due("lit(0, -1)", x.lit(0, -1), -1);
        due("lit(4, 0)", x.lit(4, 0), -1);
        due("lit(2, 12)", x.lit(2, 12), -1);
    }

    private static void promise19() {
        begin("19", "c0/1 1/0;");
        lay(0, 1, 5, 6, 7);
        due("sky(0)", x.sky(0), 3);
        due("count(7)", x.count(7), 3);
        x.put(0, 0, 9);
        due("it was taken as it was", x.strength(0, 0), 5);
        x.row(0, 2, 120);
        due("sky of 120", x.sky(0), 120);
        x.row(0, 0, 0);
        due("sky of none", x.sky(0), 0);
        due("count(7)", x.count(7), 0);
        due("sky(8)", x.sky(8), -1);
        due("sky(-1)", x.sky(-1), -1);
        due("sky(5)", x.sky(5), -11);
        x.keep(5, 1, 0);
        due("sky of a PART", x.sky(5), -12);
    }

    private static void promise20() {
        begin("20", "");
        lay(0, 0, -128, -128, 90, -128, 41, 127, -128, -5, -127, -128);
        x.sky(0);
        int[] want = {90, 90, 90, 65, 41, 100, 61, 0, 0, 0, 0, 0};
        for (int h = 0; h < 12; h++) {
            due("strength(0, " + h + ")", x.strength(0, h), want[h]);
        }
        lay(1, 1, -128, -32768, 50, -32768);
        x.sky(1);
        due("-128 is no GAP of shorts", x.strength(0, 0), 0);
        lay(5, 0, 99, 100, 101, 1, 0);
        x.sky(5);
        int[] edges = {99, 100, 100, 1, 0};
        for (int h = 0; h < 5; h++) {
            due("strength(0, " + h + ")", x.strength(0, h), edges[h]);
        }
        x.sky(1);
        // (-128 + 50) / 2 = -39
        due("the mean of what stands there", x.strength(0, 1), 0);
        due("one alone", x.strength(0, 3), 50);
        lay(2, 2, Integer.MAX_VALUE, Integer.MIN_VALUE, Integer.MAX_VALUE, Integer.MIN_VALUE, -Integer.MAX_VALUE + 100);
        x.sky(2);
        due("no int is too small for the mean", x.strength(0, 1), 100);
        due("50", x.strength(0, 3), 50);
        lay(3, 2, Integer.MIN_VALUE, Integer.MIN_VALUE);
        x.sky(3);
        due("GAPS alone", x.strength(0, 0), 0);
        x.row(4, 0, 120);
        x.put(4, 119, 33);
        x.put(4, 12, 44);
        x.sky(4);
        due("strength(9, 11)", x.strength(9, 11), 33);
        due("strength(1, 0)", x.strength(1, 0), 44);
        due("strength(10, 0)", x.strength(10, 0), -1);
        due("strength(-1, 0)", x.strength(-1, 0), -1);
        due("strength(0, 12)", x.strength(0, 12), -1);
        due("strength(0, -1)", x.strength(0, -1), -1);
    }

    private static void promise21() {
        begin("21", "c0/50 10/0;c0/50 10/0;f0 1;b2;");
        lay(0, 0, 100, 60, 0, 50);
        x.sky(0);
        x.lies(1, 0, 100);
        x.wall(0, 0, 0, 1);
        // first CURRENT 50: 29 at 5; 30: 17 at 5; 15: 7 at 6
        due("as told", x.best(0, 0), 145);
        due("hour(0, 0, 0)", x.hour(0, 0, 0), 145);
        due("hour(0, 0, 1)", x.hour(0, 0, 1), 85);
        due("half is shaded", x.hour(1, 0, 1), 42);
        // at 6: 14 and 7
        due("both", x.hour(2, 0, 1), 126);
        due("a BOX", x.hour(3, 0, 1), 126);
        due("no sun", x.hour(2, 0, 2), 0);
        x.set(0, 0, 10);
        due("in place of LIGHT as told", x.hour(0, 0, 1), 85);
        x.set(0, 1, 50);
        due("DIRT stays", x.hour(0, 0, 1), 42);
        x.dead(0, true);
        due("DEAD stays", x.hour(0, 0, 1), 0);
        due("set(0, 0, 100)", x.set(0, 0, 100), 10);
        due("hour(4, 0, 0)", x.hour(4, 0, 0), -1);
        due("hour(-1, 0, 0)", x.hour(-1, 0, 0), -1);
        due("hour(0, 10, 0)", x.hour(0, 10, 0), -1);
        due("hour(0, -1, 0)", x.hour(0, -1, 0), -1);
        due("hour(0, 0, 12)", x.hour(0, 0, 12), -1);
        due("hour(0, 0, -1)", x.hour(0, 0, -1), -1);
    }

    private static void promise22() {
        begin("22", "c0/50 10/0;");
        x.row(0, 0, 25);
        x.put(0, 0, 100);
        x.put(0, 11, 60);
        x.put(0, 12, 20);
        x.put(0, 24, 50);
        x.sky(0);
        due("day(0, 0)", x.day(0, 0), 145 + 85);
        due("day(0, 1)", x.day(0, 1), 25);
        due("day(0, 2)", x.day(0, 2), 72);
        due("day(0, 9)", x.day(0, 9), 0);
        due("day(0, 10)", x.day(0, 10), -1);
        due("day(0, -1)", x.day(0, -1), -1);
        due("day(1, 0)", x.day(1, 0), -1);
        due("day(-1, 0)", x.day(-1, 0), -1);
    }

    private static void promise23() {
        begin("23", "c0/1 1/0;");
        lay(0, 1, 100, 100, 100, 200, 10);
        due("wash(0, 100020)", x.wash(0, 100020), 459);
        due("wash(0, 100000)", x.wash(0, 100000), 510);
        // without: 100, 90, 80, 140, 6
        due("too dear", x.wash(0, 109999), 416);
        due("no DIRT", x.wash(0, 20), 510);
        // DIRT 0, 20, 40, 50, 50: 100, 80, 60, 100, 5
        due("50 at most", x.wash(0, 209999), 345);
        lay(1, 1, 999);
        due("one DAY", x.wash(1, 0), 999);
        lay(1, 1, 0, 99);
        due("99 times 99 by 100, cut", x.wash(1, 10005), 98);
        due("wash(0, -1)", x.wash(0, -1), -1);
        due("wash(0, 210000)", x.wash(0, 210000), -1);
        due("wash(8, 0)", x.wash(8, 0), -1);
        due("wash(-1, 0)", x.wash(-1, 0), -1);
        due("wash(5, 0)", x.wash(5, 0), -11);
        due("wash(5, -1)", x.wash(5, -1), -1);
        x.keep(5, 1, 0);
        due("a PART", x.wash(5, 0), -12);
        x.row(5, 0, 3);
        due("bytes", x.wash(5, 0), -12);
        x.row(5, 2, 3);
        due("ints", x.wash(5, 0), -12);
        x.row(5, 1, 0);
        due("none", x.wash(5, 0), -13);
        x.row(5, 1, 31);
        due("31", x.wash(5, 0), -13);
        x.row(5, 1, 30);
        due("30", x.wash(5, 0), 0);
        x.put(5, 0, -1);
        due("the first", x.wash(5, 0), -13);
        x.put(5, 0, 0);
        x.put(5, 29, 1000);
        due("1000", x.wash(5, 0), -13);
        x.put(5, 29, -1);
        due("-1", x.wash(5, 0), -13);
    }

    private static void promise24() {
        begin("24", "");
        lay(0, 1, 100, 100, 100, 200, 10);
        due("how many", x.washed(0, 100020, -1), 1);
        due("washed(0, 100020, 0)", x.washed(0, 100020, 0), 3);
        due("washed(0, 100020, 1)", x.washed(0, 100020, 1), -4);
        due("free", x.washed(0, 100000, -1), 4);
        due("free, on DAY 1 first", x.washed(0, 100000, 0), 1);
        due("free, on DAY 4 last", x.washed(0, 100000, 3), 4);
        due("RATE 1", x.washed(0, 10000, -1), 4);
        due("never on a clean DAY", x.washed(0, 0, -1), 0);
        due("none there", x.washed(0, 0, 0), -4);
        // each wash gives just what it costs: the fewest
        lay(1, 1, 0, 100);
        due("fewest washings", x.washed(1, 100010, -1), 0);
        // one wash, on DAY 1 or on DAY 2 alike: 0 + 100 + 90 - 5 or 0 + 90 + 100 - 5
        lay(1, 1, 0, 100, 100);
        due("one", x.washed(1, 100015, -1), 1);
        due("the latest", x.washed(1, 100015, 0), 2);
        // two washings of 4 DAYS to be clean on two DAYS
        lay(1, 1, 0, 500, 0, 500, 0);
        due("two", x.washed(1, 200090, -1), 2);
        due("the first", x.washed(1, 200090, 0), 1);
        due("the next", x.washed(1, 200090, 1), 3);
        due("washed(1, 200090, 2)", x.washed(1, 200090, 2), -4);
        due("for 100 each one of them will do", x.washed(1, 200100, -1), 1);
        due("the one", x.washed(1, 200100, 0), 3);
        // 160 is made by DAYS 1 3, 2 3, 2 4 and by three or four washings that begin on DAY 2, too
        lay(1, 1, 0, 50, 50, 50, 50);
        due("wash(1, 200010)", x.wash(1, 200010), 160);
        due("fewest ahead of latest", x.washed(1, 200010, -1), 2);
        due("the latest first", x.washed(1, 200010, 0), 2);
        due("then the latest next", x.washed(1, 200010, 1), 4);
        due("-2 ahead of all", x.washed(5, -1, -2), -1);
        due("washed(5, 0, -2)", x.washed(5, 0, -2), -1);
        due("washed(5, 0, -1)", x.washed(5, 0, -1), -11);
        due("washed(0, 210000, 0)", x.washed(0, 210000, 0), -1);
        due("washed(8, 0, 0)", x.washed(8, 0, 0), -1);
        x.row(5, 0, 2);
        due("bytes", x.washed(5, 0, 0), -12);
        x.row(5, 1, 0);
        due("none", x.washed(5, 0, 0), -13);
    }

    private static void promise25() {
        begin("25", "c0/8 20/0;c0/4 20/0;c0/8 10/0;r0;");
        lay(0, 0, 0, 1, 2);
        due("parting(0, 0)", x.parting(0, 0), 75);
        due("parting(0, 1)", x.parting(0, 1), 2);
        lay(0, 0, 0, 1);
        due("two: one way", x.parting(0, 1), 2);
        // 8 at 20 and 4 at 20: at 10 they give 4 and 2
        due("side by side", x.parting(0, 0), 60);
        lay(0, 0, 1, 0);
        due("their order is no matter", x.parting(0, 0), 60);
        due("the first is in the first ROW", x.parting(0, 1), 2);
        due("parting(8, 0)", x.parting(8, 0), -1);
        due("parting(-1, 0)", x.parting(-1, 0), -1);
        due("parting(0, 2)", x.parting(0, 2), -1);
        due("parting(0, -1)", x.parting(0, -1), -1);
        due("parting(5, 0)", x.parting(5, 0), -11);
        due("parting(5, 2)", x.parting(5, 2), -1);
        x.keep(5, 1, 0);
        due("a PART", x.parting(5, 0), -12);
        x.row(5, 1, 2);
        due("shorts", x.parting(5, 0), -12);
        lay(5, 0, 0);
        due("one", x.parting(5, 0), -13);
        lay(5, 0, 0, 1, 0);
        due("told twice", x.parting(5, 0), -13);
        lay(5, 0, 0, 3);
        due("no CELL", x.parting(5, 0), -13);
        lay(5, 0, 3, 0);
        due("no CELL first", x.parting(5, 0), -13);
        lay(5, 0, 0, 4);
        due("no PART", x.parting(5, 0), -13);
        lay(5, 0, 0, -1);
        due("below 0", x.parting(5, 0), -13);
    }

    private static void promise25Eight() {
        begin("25 eight", "c0/4 9/0;c0/4 9/0;c0/4 9/0;c0/4 9/0;c0/4 9/0;c0/4 9/0;c0/4 9/0;c0/4 9/0;c0/4 9/0;");
        lay(0, 0, 0, 1, 2, 3, 4, 5, 6, 7, 8);
        due("nine", x.parting(0, 0), -13);
        lay(0, 0, 0, 1, 2, 3, 4, 5, 6, 7);
        // eight alike, four and four: PUSH 36, 28, 20, 12, 0 in each; 20 by 2 in each
        due("the most", x.parting(0, 0), 80);
        due("the least set of four", x.parting(0, 1), 2 + 4 + 8 + 16);
        x.dead(3, true);
        due("as they are now", x.parting(0, 0) < 80 ? 1 : 0, 1);
    }

    private static void promise26() {
        begin("26", "");
        due("trade(0, 2099)", x.trade(0, 2099), 0);
        due("trade(0, 0)", x.trade(0, 0), 2099);
        due("trade(11, 5)", x.trade(11, 5), 0);
        due("trade(11, 100)", x.trade(11, 100), 5);
        due("trade(11, 100)", x.trade(11, 100), 100);
        due("trade(12, 0)", x.trade(12, 0), -1);
        due("trade(-1, 0)", x.trade(-1, 0), -1);
        due("trade(0, 2100)", x.trade(0, 2100), -1);
        due("trade(0, -1)", x.trade(0, -1), -1);
    }

    private static void promise27() {
        begin("27", "");
        due("room(30)", x.room(30), 0);
        due("room(31)", x.room(31), -1);
        due("room(-1)", x.room(-1), -1);
        due("room(7)", x.room(7), 30);
        due("count(8)", x.count(8), 7);
        due("room(0)", x.room(0), 7);
    }

    private static void promise28() {
        begin("28", "");
        x.trade(0, 1002);
        x.trade(1, 309);
        x.trade(2, 405);
        due("without ROOM", x.sells(-1), 20 + 27 + 20);
        due("all is sold", x.sells(0), 10);
        x.room(5);
        due("sells(-1)", x.sells(-1), 102);
        due("sells(0)", x.sells(0), 5);
        due("sells(1)", x.sells(1), 8);
        due("sells(2)", x.sells(2), 4);
        due("sells(11)", x.sells(11), 0);
        due("sells(12)", x.sells(12), -1);
        due("sells(-2)", x.sells(-2), -1);
        // one PRICE in HOURS 4, 5 and 11: as late as ROOM lets
        x.trade(4, 803);
        x.trade(5, 3);
        x.trade(11, 3);
        due("sells(4)", x.sells(4), 3);
        due("sells(5)", x.sells(5), 0);
        due("sells(11)", x.sells(11), 5);
        due("sells(-1)", x.sells(-1), 102 + 24);
        x.trade(11, 0);
        due("the later one of two", x.sells(5), 5);
        // nothing is taken in for PRICE 0, but what is above ROOM must be sold
        x.trade(4, 800);
        x.trade(5, 0);
        due("sells(4)", x.sells(4), 3);
        due("sells(5)", x.sells(5), 0);
        due("sells(-1)", x.sells(-1), 102);
        x.room(30);
        due("sells(4) into the wide", x.sells(4), 0);
        due("the dear HOUR takes all", x.sells(1), 13);
    }

    private static void promise29() {
        begin("29", "c0/8 20/0;c0/8 20/0;f0 1;b2;");
        x.set(0, 0, 50);
        x.set(0, 1, 20);
        x.set(0, 2, 50);
        x.set(0, 3, 10);
        // SHARE 20: CURRENT 1 up to PUSH 0
        due("as it is", x.without(0, 0), 0);
        due("as BEST", x.best(0, 0), 0);
        due("all taken off", x.without(0, 15), 40);
        // SHARE 40: 3 up to 0, PUSH 18, 12, 6, 0
        due("without LIGHT", x.without(0, 1), 12);
        // SHARE 25: 2, PUSH 18, 9, 0
        due("without DIRT", x.without(0, 2), 9);
        // SHARE 40 likewise
        due("without WEAR", x.without(0, 4), 12);
        due("without WARM", x.without(0, 8), 0);
        // SHARE 80: 6: PUSH 18, 15, 12, 9, 6, 3
        due("without LIGHT, WEAR", x.without(0, 5), 27);
        due("all its CELLS", x.without(2, 15), 80);
        due("a BOX", x.without(3, 15), 80);
        x.dead(0, true);
        due("DEAD stays", x.without(0, 15), 0);
        due("nothing is changed", x.set(0, 0, 100), 50);
        due("without(0, 16)", x.without(0, 16), -1);
        due("without(0, -1)", x.without(0, -1), -1);
        due("without(4, 0)", x.without(4, 0), -1);
    }

    private static void promise30() {
        begin("30", "c0/8 20/0;");
        x.set(0, 0, 50);
        x.set(0, 1, 20);
        x.set(0, 3, 10);
        due("loss(0, 0, false)", loss(0, 0, false), 15);
        due("loss(0, 1, false)", loss(0, 1, false), 9);
        due("loss(0, 2, false)", loss(0, 2, false), 0);
        due("loss(0, 3, false)", loss(0, 3, false), 4);
        due("loss(0, 0, true)", loss(0, 0, true), 416);
        due("loss(0, 2, true)", loss(0, 2, true), 0);
        due("loss(0, 3, true)", loss(0, 3, true), 68);
        long sum = 0;
        for (int cause = 0; cause < 4; cause++) {
            sum += loss(0, cause, true);
        }
        due("together 24 times all that is lost", sum, 24L * (40 - 12));
        due("loss(0, 4, true)", loss(0, 4, true), ILLEGAL_ARGUMENT);
        due("loss(0, -1, false)", loss(0, -1, false), ILLEGAL_ARGUMENT);
        due("loss(1, 0, false)", loss(1, 0, false), ILLEGAL_ARGUMENT);
        due("loss(-1, 0, true)", loss(-1, 0, true), ILLEGAL_ARGUMENT);
    }

    private static void promise31() {
        begin("31", HOUSE);
        int[] want = {2, 2, 4, 2, 5, 5};
        for (int part = 0; part < 6; part++) {
            due("faults(" + part + ")", x.faults(part), want[part]);
        }
        due("a DIODE ahead of all", tell("c0/1 1/0;r[6];c0/1 1/0;"), 3);
        due("faults(7)", x.faults(7), 3);
        due("faults(8)", x.faults(8), 2);
        due("faults(9)", x.faults(9), -1);
        due("faults(-1)", x.faults(-1), -1);
    }

    private static void promise32() {
        begin("32", "c0/8 20/0;c0/4 20/0;r[1] [0];b2;");
        // in order: 1 is CELL 1 DEAD, 2 is CELL 0 DEAD, 3 the DIODE of 1, 4 that of 0 is BROKEN
        lay(0, 0);
        due("all fit", x.fits(2, 0, -1), 5);
        due("fits(2, 0, 4)", x.fits(2, 0, 4), 4);
        due("fits(2, 0, 5)", x.fits(2, 0, 5), -4);
        // PUSH at 4: 0 (CELL 1) + 10; at 5: -1 + 8; at 6: -1 + 5
        lay(0, 0, 7, 5);
        due("as it is now, and where the other DIODE is BROKEN", x.fits(2, 0, -1), 3);
        due("none", x.fits(2, 0, 0), 0);
        due("CELL 1 DEAD", x.fits(2, 0, 1), 1);
        due("the DIODE of 0", x.fits(2, 0, 2), 4);
        due("through a BOX", x.fits(3, 0, 1), 1);
        lay(0, 0, 7, 4);
        due("the DIODE of 1", x.fits(2, 0, 0), 3);
        lay(0, 0, 7, 5, 30, 1);
        due("both are to be", x.fits(2, 0, -1), 2);
        due("none", x.fits(2, 0, 0), 0);
        due("the DIODE of 0", x.fits(2, 0, 1), 4);
        lay(0, 0, -2, 99);
        due("u below 0", x.fits(2, 0, -1), 3);
        lay(0, 0, -128, 99);
        due("the least u", x.fits(2, 0, -1), 5);
        lay(0, 0, 0, -1);
        due("no CURRENT is below 0", x.fits(2, 0, -1), 0);
        x.row(0, 0, 40);
        due("40", x.fits(2, 0, -1), 0);
        x.row(0, 0, 42);
        due("42", x.fits(2, 0, -1), -13);
        x.row(0, 0, 1);
        due("odd", x.fits(2, 0, -1), -13);
        due("fits(2, 0, -2)", x.fits(2, 0, -2), -1);
        due("fits(2, 8, 0)", x.fits(2, 8, 0), -1);
        due("fits(4, 0, 0)", x.fits(4, 0, 0), -1);
        due("fits(2, 5, 0)", x.fits(2, 5, 0), -11);
        due("fits(2, 5, -2)", x.fits(2, 5, -2), -1);
        x.keep(5, 1, 0);
        due("a PART", x.fits(2, 5, 0), -12);
        x.row(5, 1, 2);
        due("shorts", x.fits(2, 5, 0), -12);
        lay(0, 0, 7, 5);
        x.dead(0, true);
        due("all else as now", x.fits(2, 0, -1), 0);
        lay(0, 0);
        due("a DEAD CELL may be DEAD", x.fits(2, 0, -1), 5);
        due("it is DEAD still", x.dead(0, true), 0);
        due("its DIODE is whole still", x.about(2, 2), 2);
    }

    private static void promise33() {
        begin("33", "c0/6 10/5 20/0;c0/6 10/5 12/0;f0 1;b2;");
        // each gives 6 at 0, 5 up to 10, 4 at 11; at 12 they give 4 and 2
        lay(0, 0);
        due("look(2, 0)", x.look(2, 0), 12);
        lay(0, 0, 0, 6);
        due("two that FIT", x.fits(2, 0, -1), 2);
        due("they part at 12 first", x.look(2, 0), 12);
        due("a BOX", x.look(3, 0), 12);
        lay(0, 0, 12, 6);
        due("only one FITS: the least u", x.look(2, 0), 0);
        lay(0, 0, 0, 77);
        due("none FITS", x.look(2, 0), -4);
        lay(0, 0, 7);
        due("odd", x.look(2, 0), -13);
        x.row(0, 0, 42);
        due("42", x.look(2, 0), -13);
        due("look(4, 0)", x.look(4, 0), -1);
        due("look(-1, 0)", x.look(-1, 0), -1);
        due("look(2, 8)", x.look(2, 8), -1);
        due("look(2, 5)", x.look(2, 5), -11);
        x.row(5, 2, 2);
        due("ints", x.look(2, 5), -12);
        x.keep(5, 1, 0);
        due("a PART", x.look(2, 5), -12);
        // two CELLS that never differ: of three, two stay together wherever one looks
        due("a text", tell("c0/5 10/0;c0/5 10/0;f4 5;"), 3);
        lay(0, 0);
        due("the least of equals", x.look(6, 0), 0);
        lay(0, 0, 3, 3);
        due("two alike", x.look(6, 0), 0);
    }

    /** Two ROWS of three CELLS, with the third and the last CELL as told; PUSH at 4 of the others is 40. */
    private static void beginTwoRows(String name, String third, String last) {
        String plain = "c0/6 38/5 40/4 41/0;";
        begin(name, plain + plain + third);
        due("the second ROW's", tell(plain + plain + last), 3);
        due("a FIELD", tell("r0 1 2;r3 4 5;f6 7;"), 3);
        lay(0, 0, 100, 5);
        due("any CELL may be DEAD", x.fits(8, 0, -1), 6);
    }

    private static void promise33Bounds() {
        // at 4 the ROWS give 120 and 119, so that only at 120 one sees in which of them a CELL is DEAD
        beginTwoRows("33 at 120", "c0/6 38/5 40/4 41/0;", "c0/6 38/5 39/4 41/0;");
        due("look(8, 0)", x.look(8, 0), 120);
        // at 4 they give 121 and 120: 121 is not looked at; 73 parts two from four
        beginTwoRows("33 at 121", "c0/6 38/5 41/4 42/0;", "c0/6 38/5 40/4 41/0;");
        due("look(8, 0)", x.look(8, 0), 73);
    }

    private static void promise34() {
        begin("34", "");
        due("image() of nothing", x.image(), 0);
        due("a text", tell("c0/1 1/0;b0;"), 2);
        due("image()", x.image(), 2);
        due("nothing is changed", x.count(0), 2);
    }

    private static void promise35() {
        begin("35", "c0/8 20/0;c0/8 20/0;b0;");
        due("none", x.restore(), -3);
        x.set(1, 1, 5);
        x.dead(1, true);
        x.lies(1, 600, 700);
        x.box(2, 1, 3);
        // 3, 6, 9, 12, 15: there POWER is less than at 12
        x.seek(2, 5);
        x.wall(4, 6, 0, 9);
        x.sun(5, 2, 3);
        x.trade(6, 123);
        x.room(8);
        lay(0, 0, 70, -128, 80);
        x.sky(0);
        due("image()", x.image(), 3);
        x.set(1, 1, 6);
        x.dead(1, false);
        x.lies(1, 0, 1911);
        x.box(2, 1, 4);
        x.box(2, 0, 40);
        x.wall(4, 9, 9, 1);
        x.sun(5, 0, 0);
        x.trade(6, 0);
        x.room(0);
        x.row(0, 1, 1);
        x.sky(0);
        due("more", tell("c0/1 1/0;r1;"), 2);
        x.set(3, 0, 1);
        x.set(3, 1, 2);
        x.set(3, 3, 4);
        x.dead(3, true);
        x.lies(3, 0, 0);
        due("restore()", x.restore(), 3);
        due("PARTS", x.count(0), 3);
        due("about(1, 4)", x.about(1, 4), -4);
        due("DIRT", x.set(1, 1, 0), 5);
        due("DEAD", x.dead(1, true), 0);
        due("PLACES, WALLS", x.lit(1, 0), 50);
        due("SUN", x.sun(5, 2, 3), 203);
        due("TRADE", x.trade(6, 0), 123);
        due("ROOM", x.room(0), 8);
        due("SKY and its GAP", x.strength(0, 1), 75);
        due("count(7)", x.count(7), 3);
        due("SHELVES stay", element(0, 0), 0);
        due("count(6)", x.count(6), 1);
        due("HEIGHT of the WALL", x.wall(4, 6, 0, 9), 9);
        due("what the BOX measured", x.seek(2, 1), 12);
        x.image();
        x.box(2, 1, 5);
        due("restore()", x.restore(), 3);
        due("its way and its STEP", x.seek(2, 1), 9);
        due("THE IMAGE stays", x.restore(), 3);
        due("and is as it was", x.seek(2, 1), 9);
        due("new PARTS are new", tell("c0/1 1/0;b1;"), 2);
        due("STEP of a new BOX", x.box(4, 1, 5), 5);
        due("LIGHT of a new CELL", x.set(3, 0, 1), 100);
        due("DIRT of a new CELL", x.set(3, 1, 1), 0);
        due("WARM of a new CELL", x.set(3, 3, 1), 0);
        due("it is not DEAD", x.dead(3, false), 0);
        x.wall(0, 0, 0, 1);
        due("it lies nowhere", x.lit(3, 0), 100);
    }

    private static void promise36() {
        begin("36", HOUSE);
        x.dead(1, true);
        x.dead(3, true);
        x.wall(0, 0, 0, 5);
        x.wall(9, 1, 1, 5);
        x.wall(4, 1, 1, 0);
        x.row(0, 2, 17);
        x.sky(0);
        x.room(12);
        int[] want = {6, 3, 1, 1, 1, 2, 2, 17, 12};
        for (int what = 0; what <= 8; what++) {
            due("count(" + what + ")", x.count(what), want[what]);
        }
        due("count(9)", x.count(9), -1);
        due("count(-1)", x.count(-1), -1);
    }

    private static void promise37() {
        begin("37", HOUSE);
        due("keep(0, 1, 5)", x.keep(0, 1, 5), 0);
        due("it is held", x.weight(0), 20);
        due("keep(0, 1, 6)", x.keep(0, 1, 6), -1);
        due("keep(0, 1, -1)", x.keep(0, 1, -1), -1);
        due("keep(0, 2, 0)", x.keep(0, 2, 0), -1);
        due("keep(0, -1, 0)", x.keep(0, -1, 0), -1);
        due("keep(8, 0, 0)", x.keep(8, 0, 0), -1);
        due("keep(-1, 1, 0)", x.keep(-1, 1, 0), -1);
        due("refused, it holds what it held", x.weight(0), 20);
        due("nothing, k is no matter", x.keep(0, 0, 99), 0);
        due("weight(0)", x.weight(0), -11);
        x.row(2, 0, 1);
        x.keep(2, 0, 0);
        due("nothing in place of a ROW", x.put(2, 0, 0), -11);
        x.row(1, 0, 1);
        due("in place of a ROW", x.keep(1, 1, 0), 0);
        due("element(1, 0)", element(1, 0), ILLEGAL_STATE);
    }

    private static void promise38() {
        begin("38", "c0/1 1/0;");
        due("row(0, 0, 120)", x.row(0, 0, 120), 0);
        due("element(0, 119)", element(0, 119), 0);
        due("element(0, 120)", element(0, 120), ILLEGAL_STATE);
        x.put(0, 3, 7);
        due("anew", x.row(0, 2, 4), 0);
        due("all 0", element(0, 3), 0);
        due("row(0, 0, 121)", x.row(0, 0, 121), -1);
        due("row(0, 3, 1)", x.row(0, 3, 1), -1);
        due("row(0, -1, 1)", x.row(0, -1, 1), -1);
        due("row(8, 0, 1)", x.row(8, 0, 1), -1);
        due("row(-1, 0, -1)", x.row(-1, 0, -1), -1);
        due("row(0, 3, -1)", x.row(0, 3, -1), -1);
        due("row(0, 0, -1)", x.row(0, 0, -1), -14);
        due("row(0, 0, least)", x.row(0, 0, Integer.MIN_VALUE), -14);
        due("refused, it holds what it held", element(0, 3), 0);
        x.keep(0, 1, 0);
        due("in place of a PART", x.row(0, 0, 0), 0);
        due("weight(0)", x.weight(0), -12);
    }

    private static void promise39() {
        begin("39", "c0/1 1/0;");
        x.row(0, 0, 2);
        x.row(1, 1, 2);
        x.row(2, 2, 2);
        int[] values = {127, 128, -129, 255, 256, 32768, 65535, Integer.MIN_VALUE, Integer.MAX_VALUE};
        for (int v : values) {
            due("put(0, 1, " + v + ")", x.put(0, 1, v), 0);
            due("a byte", element(0, 1), (byte) v);
            due("put(1, 1, " + v + ")", x.put(1, 1, v), 0);
            due("a short", element(1, 1), (short) v);
            due("put(2, 1, " + v + ")", x.put(2, 1, v), 0);
            due("an int", element(2, 1), v);
        }
        due("put(0, 2, 0)", x.put(0, 2, 0), -13);
        due("put(0, -1, 0)", x.put(0, -1, 0), -13);
        due("put(8, 0, 0)", x.put(8, 0, 0), -1);
        due("put(-1, 0, 0)", x.put(-1, 0, 0), -1);
        due("put(5, 0, 0)", x.put(5, 0, 0), -11);
        x.keep(5, 1, 0);
        due("a PART", x.put(5, 0, 0), -12);
    }

    private static void promise40() {
        begin("40", "c0/1 1/0;");
        lay(0, 2, 5, -6);
        due("element(0, 1)", element(0, 1), -6);
        due("element(0, 2)", element(0, 2), ILLEGAL_STATE);
        due("element(0, -1)", element(0, -1), ILLEGAL_STATE);
        due("element(8, 0)", element(8, 0), ILLEGAL_ARGUMENT);
        due("element(-1, 0)", element(-1, 0), ILLEGAL_ARGUMENT);
        due("element(1, 0)", element(1, 0), ILLEGAL_STATE);
        x.keep(1, 1, 0);
        due("a PART", element(1, 0), ILLEGAL_STATE);
    }

    private static void promise41() {
        begin("41", "c0/1 1/0;");
        lay(0, 1, 1, 2, 3, 4, 5);
        lay(1, 1, 9, 9, 9);
        due("copy(0, 3, 1, 1, 2)", x.copy(0, 3, 1, 1, 2), 2);
        due("the one ahead", element(1, 0), 9);
        due("4", element(1, 1), 4);
        due("5", element(1, 2), 5);
        due("onto itself, later", x.copy(0, 0, 0, 1, 4), 4);
        for (int i = 0; i < 5; i++) {
            due("element(0, " + i + ")", element(0, i), new int[] {1, 1, 2, 3, 4}[i]);
        }
        due("onto itself, sooner", x.copy(0, 2, 0, 0, 3), 3);
        for (int i = 0; i < 5; i++) {
            due("element(0, " + i + ")", element(0, i), new int[] {2, 3, 4, 3, 4}[i]);
        }
        due("none at the end", x.copy(0, 5, 1, 3, 0), 0);
        due("behind the end", x.copy(0, 6, 1, 0, 0), -13);
        due("behind the other end", x.copy(0, 0, 1, 4, 0), -13);
        due("too many", x.copy(0, 3, 1, 0, 3), -13);
        due("too many there", x.copy(0, 0, 1, 1, 3), -13);
        due("n below 0", x.copy(0, 1, 1, 1, -1), -13);
        due("i below 0", x.copy(0, -1, 1, 0, 1), -13);
        due("j below 0", x.copy(0, 0, 1, -1, 1), -13);
        due("very many", x.copy(0, 1, 1, 1, Integer.MAX_VALUE), -13);
        due("copy(8, ..)", x.copy(8, 0, 1, 0, 1), -1);
        due("copy(0, .., 8, ..)", x.copy(0, 0, 8, 0, 1), -1);
        due("copy(5, .., -1, ..)", x.copy(5, 0, -1, 0, 1), -1);
        due("the first holds nothing", x.copy(5, 0, 1, 0, 1), -11);
        due("the other holds nothing", x.copy(1, 0, 5, 0, 1), -11);
        x.row(4, 1, 3);
        x.keep(4, 1, 0);
        due("a PART and nothing", x.copy(4, 0, 5, 0, 1), -11);
        due("from a PART", x.copy(4, 0, 1, 0, 1), -12);
        due("to a PART", x.copy(1, 0, 4, 0, 1), -12);
        x.row(5, 0, 3);
        due("of two SORTS", x.copy(1, 0, 5, 0, 1), -12);
        due("of two SORTS, n below 0", x.copy(1, 0, 5, 0, -1), -12);
    }

    private static void promise42() {
        begin("42", HOUSE);
        int[] want = {40, 36, 32, 33, 2 * (14 + 30), 20};
        for (int part = 0; part < 6; part++) {
            x.keep(part, 1, part);
            due("weight of " + part, x.weight(part), want[part]);
        }
        x.set(0, 3, 40);
        x.box(5, 1, 9);
        due("as it was then", x.weight(5), 20);
        x.keep(0, 1, 0);
        x.keep(5, 1, 5);
        due("PUSH as told", x.weight(0), 40);
        due("STEP as then", x.weight(5), 24);
        due("weight(8)", x.weight(8), -1);
        due("weight(-1)", x.weight(-1), -1);
        due("weight(6)", x.weight(6), -11);
        x.row(6, 0, 0);
        due("a ROW", x.weight(6), -12);
    }

    private static void promise43() {
        begin("43", HOUSE);
        // the ROW at PUSH 0: at 9 it gives 0 and -1
        int[] want = {9, 6, 8, 4, 1012, -15};
        for (int part = 0; part < 6; part++) {
            x.keep(part, 1, part);
            due("toss of " + part, x.toss(part), want[part]);
        }
        x.dead(3, true);
        due("as it was then", x.toss(3), 4);
        x.keep(3, 1, 3);
        x.keep(4, 1, 4);
        due("no CURRENT at 0", x.toss(3), -15);
        due("the FIELD has less", x.toss(4), 1008);
        x.dead(0, true);
        x.keep(4, 1, 4);
        due("a FIELD without CURRENT", x.toss(4), 1000 + x.current(2, 0));
        x.dead(1, true);
        x.keep(4, 1, 4);
        due("none at all", x.current(4, 0), 0);
        due("no FAILURE of a FIELD", x.toss(4), -15);
        due("toss(8)", x.toss(8), -1);
        due("toss(-1)", x.toss(-1), -1);
        due("toss(6)", x.toss(6), -11);
        x.row(6, 0, 0);
        due("a ROW", x.toss(6), -12);
    }

    public static void main(String[] args) {
        promise1();
        promise2();
        promise2Shapes();
        promise2Statements();
        promise2Bounds();
        promise3();
        promise4();
        promise5();
        promise6();
        promise7();
        promise7Groups();
        promise8();
        promise9();
        promise10();
        promise11();
        promise11Edge();
        promise12();
        promise12Forgets();
        promise13();
        promise14();
        promise15();
        promise16();
        promise17();
        promise18();
        promise19();
        promise20();
        promise21();
        promise22();
        promise23();
        promise24();
        promise25();
        promise25Eight();
        promise26();
        promise27();
        promise28();
        promise29();
        promise30();
        promise31();
        promise32();
        promise33();
        promise33Bounds();
        promise34();
        promise35();
        promise36();
        promise37();
        promise38();
        promise39();
        promise40();
        promise41();
        promise42();
        promise43();
        System.out.println("PromiseTests: " + checks + " checks, " + wrong + " wrong");
        System.exit(wrong == 0 ? 0 : 1);
    }
}
