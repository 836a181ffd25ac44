/**
 * Sentences of the document that name no bound and that one call by itself does not show: what a call goes by, what it
 * leaves as it is, in which order it counts. Worked out by hand; the name of each house is the sentence.
 */
public final class SentenceTests {

    private static Calls house(String sentence, String text) {
        Calls x = new Calls(sentence);
        if (!text.isEmpty()) {
            int n = text.length() - text.replace(";", "").length();
            x.dueText(text, n);
        }
        return x;
    }

    public static void main(String[] args) {
        ledGoesByStepAlone();
        boxMeasuresAsThingsStand();
        boxOfImage();
        hourLeavesAllButLight();
        hoursBySun();
        partingAsNow();
        partingWithoutDiodes();
        lossesOfField();
        faultsAsNow();
        faultsInOrderOfField();
        lookByWhatFits();
        weightAsTold();
        numbersGoOn();
        settingsOfOneHour();
        askingChangesNothing();
        Calls.end("SentenceTests");
    }

    // ---- boxes

    private static void ledGoesByStepAlone() {
        Calls x = house("LED: a BOX that goes up, without a measure ahead", "c0/10 20/9 30/0;b0;");
        x.tell("seek 1 6");
        // it stands at 20, measured 100 at 25, goes down
        x.due("led 1 10 1", 1);
        x.due("led 1 13 1", 1);
        // 26, 31, then down: 26, 21
        x.due("led 1 26 9", 3);
        x.due("led 1 26 2", -4);
        // 0 at 30, no less at 35, and so on up
        x.due("led 1 30 9", -4);
        x.due("what it did not change: 15 is next", 15, "seek 1 1");
    }

    private static void boxMeasuresAsThingsStand() {
        Calls x = house("it measures POWER at u", "c0/10 20/9 30/0;b0;");
        x.due("seek 1 4", 20);
        x.tell("dead 0 true");
        x.due("0 now, less than 135 at 15", 15, "seek 1 1");
        x.tell("dead 0 false");
        x.due("135 now, more than 0", 10, "seek 1 1");
        x.tell("set 0 0 50");
        // 5 up to 10: POWER 40 at 10, less than 135
        x.due("less LIGHT, less POWER", 15, "seek 1 1");
    }

    private static void boxOfImage() {
        Calls x = house("RESTORED a BOX goes on as it would have gone", "c0/10 20/9 30/0;b0;");
        x.tell("seek 1 5", "image");
        // it stands at 25, measured 180 at 20
        x.due("seek 1 1", 20);
        x.tell("box 1 1 40", "seek 1 7", "restore");
        for (int u : new int[] {20, 15, 20, 25, 20}) {
            x.due("seek 1 1", u);
        }
        x.tell("restore");
        x.due("seek 1 1", 20);
        x.due("seek 1 1", 15);
        x.due("box 1 1 5", 5);
    }

    // ---- roofs, skies, days

    private static void hourLeavesAllButLight() {
        Calls x = house("in an HOUR LIGHT alone is another", "c0/50 10/0;");
        x.lay(0, 0, 100);
        x.tell("sky 0", "set 0 0 3");
        x.due("hour 0 0 0", 145);
        x.tell("set 0 2 50");
        // 25: 12 at 6
        x.due("WEAR", 72, "hour 0 0 0");
        x.tell("set 0 2 0", "set 0 3 40");
        // 6 less 6 by 50 of c: 33 at 3
        x.due("WARM", 99, "hour 0 0 0");
        x.tell("set 0 3 0", "set 0 1 50");
        x.due("DIRT", 72, "hour 0 0 0");
        x.dueRow("set 0 # 0", 0, 3, 50, 0, 0);
    }

    private static void hoursBySun() {
        Calls x = house("each HOUR by its own SUN", "c0/50 10/0;c0/50 10/0;f0 1;b2;");
        x.lay(0, 0, 100, 100, 100);
        x.tell("sky 0", "lies 0 0 100", "wall 0 0 0 1", "sun 0 0 10", "sun 2 2 10");
        // in HOUR 0 both PLACES are in the shade, in 1 and 2 the WALL's own
        x.dueRow("lit 0 #", 0, 0, 50, 50);
        x.dueRow("hour 0 0 #", 0, 0, 72, 72, 0);
        x.due("day 0 0", 144);
        x.due("day 1 0", 3 * 145);
        // side by side at 5: 29, and 14 in HOURS 1 and 2; at 6 it is 24 and 12
        x.dueRow("hour 3 0 #", 0, 145, 216, 216, 0);
        x.due("day 3 0", 145 + 216 + 216);
        x.tell("wall 0 0 0 0");
        x.due("day 0 0", 3 * 145);
        x.due("day 2 0", 6 * 145);
    }

    // ---- plans

    private static void partingAsNow() {
        Calls x = house("PARTING of the CELLS as they are now", "c0/8 20/0;c0/8 20/0;");
        x.lay(0, 0, 0, 1);
        x.due("parting 0 0", 80);
        x.tell("set 1 0 0");
        x.due("no LIGHT on one", 40, "parting 0 0");
        x.tell("set 1 0 100", "set 1 3 40");
        // 12 at 0: at 8 it is 5 and 3
        x.due("WARM", 64, "parting 0 0");
        x.tell("dead 0 true");
        // the other by itself: 5 at 5
        x.due("one DEAD", 25, "parting 0 0");
        x.due("parting 0 1", 2);
        x.due("in no ROW", -4, "about 0 4");
    }

    private static void partingWithoutDiodes() {
        Calls x = house("in order, no DIODES", "c0/9 10/8 11/0;c0/2 1/0;c0/2 1/0;r[1] [2];f3 0;");
        x.lay(0, 0, 1, 0, 2);
        // at 8 a weak one gives -12: the strong one by itself gives 8 at 10, the two others nothing more there
        x.due("parting 0 0", 80);
        x.due("parting 0 1", 2);
        x.lay(0, 0, 0, 1);
        x.due("side by side", 80, "parting 0 0");
        x.due("faults 4", 6);
    }

    private static void lossesOfField() {
        Calls x = house("LOSSES of a PART are those of all its CELLS together", "c0/8 20/0;c0/8 20/0;r1;f0 2;b3;c0/8 20/0;");
        for (int cell : new int[] {0, 1, 5}) {
            x.tell("set " + cell + " 0 50", "set " + cell + " 1 20", "set " + cell + " 3 10");
        }
        x.dueRow("loss 5 # false", 0, 15, 9, 0, 4);
        x.dueRow("loss 4 # false", 0, 30, 18, 0, 8);
        x.due("loss 5 0 true", 416);
        x.due("loss 5 3 true", 68);
        x.due("loss 3 0 true", 832);
        x.due("loss 4 3 true", 136);
        x.due("all that is lost", 24 * 28 - 416 - 68, "loss 5 1 true");
    }

    // ---- FAULTS

    private static void faultsAsNow() {
        Calls x = house("the PART with it, and all else as now", "c0/8 20/0;c0/8 20/0;f0 1;");
        x.lay(0, 0, 0, 4);
        x.due("fits 0 0 -1", 0);
        x.tell("set 0 0 50");
        x.due("fits 0 0 -1", 1);
        x.due("as it is", 0, "fits 0 0 0");
        x.due("of the FIELD: the other DEAD", 2, "fits 2 0 0");
        x.due("fits 2 0 -1", 1);
        x.tell("set 0 0 100", "set 0 2 50");
        x.due("WEAR", 2, "fits 2 0 0");
        x.tell("set 0 2 0", "set 0 3 40");
        x.lay(0, 0, 12, 3);
        // 12 is its last PUSH now; the other gives 3 there
        x.dueRow("fits 2 0 #", -1, 2, 0, 1);
        x.due("about 2 2", 0);
    }

    private static void faultsInOrderOfField() {
        Calls x = house("its CELLS, its DIODES in order", "c0/8 20/0;c0/4 20/0;r[0];r[1];f3 2;");
        x.lay(0, 0, 0, 12);
        x.dueRow("fits 4 0 #", -1, 3, 0, 3, 4, -4);
        x.lay(0, 0, 0, 8);
        x.dueRow("fits 4 0 #", -1, 1, 1, -4);
        x.lay(0, 0, 0, 4);
        x.dueRow("fits 4 0 #", -1, 1, 2, -4);
        // at -1 a ROW under its DIODE gives 99, without it its CELL's own
        x.lay(0, 0, -1, 103);
        x.dueRow("fits 4 0 #", -1, 1, 3, -4);
        x.lay(0, 0, -1, 107);
        x.dueRow("fits 4 0 #", -1, 1, 4, -4);
    }

    private static void lookByWhatFits() {
        Calls x = house("NEXT LOOK: of those that FIT, not of all", "c0/5 10/0;c0/5 10/0;c0/5 12/0;f0 1 2;");
        x.lay(0, 0, 0, 10);
        // one CELL DEAD: at 1 the first two give 4, the third 4; at 2 both kinds 4; at 3 the first 3, the third 3
        x.dueRow("fits 3 0 #", -1, 3, 1, 2, 3);
        x.due("current 0 1", 4);
        x.due("current 2 1", 4);
        x.due("look 3 0", 3);
        x.due("current 0 3", 3);
        x.due("current 2 3", 4);
    }

    // ---- SHELVES, numbers

    private static void weightAsTold() {
        Calls x = house("WEIGHT goes by what was told, and by STEP", "c0/8 20/0;c0/4 20/0;r0;f2 1;b3;");
        x.tell("dead 0 true", "set 1 3 40", "set 1 0 0");
        for (int part = 0; part < 5; part++) {
            x.tell("keep " + part + " 1 " + part);
        }
        x.dueRow("weight #", 0, 30, 31, 22, 66, 19);
        x.tell("box 4 0 300", "keep 4 1 4");
        x.due("its u is no matter", 19, "weight 4");
        x.tell("box 4 1 30", "keep 4 1 4");
        x.due("its STEP is", 44, "weight 4");
    }

    private static void numbersGoOn() {
        Calls x = house("PARTS as they come, over several TEXTS", "c0/1 1/0;");
        x.dueText("c0/2 2/0;r0;", 2);
        x.dueText("f2 1;", 1);
        x.fault("c0/3 3/0;r9;", -2009);
        x.dueText("c0/4 4/0;b3;", 2);
        x.dueRow("about # 0", 0, 0, 0, 1, 2, 0, 3, -1);
        x.due("point 4 1 0", 4);
        x.dueRow("about # 4", 0, 2, 3, 3, 5, -4, -4);
    }

    private static void settingsOfOneHour() {
        Calls x = house("each HOUR has a SURPLUS and a PRICE, a DIRECTION and a LENGTH of its own", "");
        for (int h = 0; h < 12; h++) {
            x.due("trade " + h + " " + (100 * h + h), 0);
            x.due("sun " + h + " " + h % 8 + " " + h, 0);
        }
        for (int h = 0; h < 12; h++) {
            x.due("trade " + h + " 0", 101 * h);
            x.due("sun " + h + " 0 0", 100 * (h % 8) + h);
        }
    }

    /** Behind all that can be asked a house answers as one that was not asked. */
    private static void askingChangesNothing() {
        String text = "c0/9 20/8 30/0;c0/6 25/0;r0 [1];b2;";
        String[] settings = {"set 0 0 90", "set 1 1 20", "set 1 2 4", "set 0 3 7", "lies 0 0 101", "wall 0 0 0 9",
            "sun 0 1 10", "room 4", "trade 0 509", "trade 1 709", "seek 3 3", "row 0 1 2", "put 0 1 60", "sky 0",
            "row 1 0 2", "put 1 1 5", "keep 2 1 3", "image"};
        String[] questions = {"about 2 1", "point 1 1 0", "push 2 6", "current 2 7", "best 2 0", "hump 2 -1", "held 2 7 0",
            "led 3 400 200", "lit 0 0", "strength 0 1", "hour 3 0 1", "day 2 0", "wash 0 50003", "washed 0 50003 0",
            "parting 1 0", "sells -1", "sells 0", "without 2 15", "loss 2 0 false", "loss 3 1 true", "faults 2",
            "fits 2 1 -1", "look 2 1", "count 0", "weight 2", "toss 2", "element 0 1"};
        Calls x = house("asking changes nothing", text);
        Calls y = house("asking changes nothing", text);
        x.tell(settings);
        y.tell(settings);
        x.tell(questions);
        x.tell(questions);
        for (String call : questions) {
            x.due(call, y.answer(call));
        }
        for (String call : new String[] {"seek 3 1", "seek 3 9", "box 3 1 5", "restore", "seek 3 1", "set 0 0 0", "set 1 1 0",
            "set 1 2 0", "set 0 3 0", "dead 0 false", "dead 1 false", "sun 0 0 0", "room 0", "trade 0 0", "trade 1 0",
            "wall 0 0 0 0", "count 7"}) {
            x.due(call, y.answer(call));
        }
    }
}
