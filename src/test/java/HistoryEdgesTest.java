/** Sentence by sentence: REFUSALS AND HISTORY, and promises 18 to 20 and 29. */
public final class HistoryEdgesTest {
    private static final int MIN = Integer.MIN_VALUE;
    private static final int MAX = Integer.MAX_VALUE;

    public static void main(String[] args) {
        reasons();
        reasonAtFirst();
        reasonStays();
        sixStates();
        roundAndRound();
        acts();
        actsWithoutChange();
        noActs();
        errorsAreNoActs();
        noneIsNoAct();
        undoneMirrors();
        undonePeriods();
        undoneCrew();
        undonePlan();
        undoneLog();
        undoneNumbers();
        textAndHistoryStay();
        slotsStay();
        reasonAndFailureStay();
        statesThatAreLeft();
        emptySlots();
        kept();
        inPlace();
        slotStays();
        restoreIsAnAct();
        restoredState();
        counts();
        cleaningsAndHours();
        Check.end();
    }

    private static void reasons() {
        Check.says("A call that is refused sets the reason: 1 to 4 as told under CLEANINGS, 5 there are 10 periods of "
            + "this sort already.");
        MirrorPlanner x = Check.withCrewAndMirrors(1, 1, 2);
        Check.refused("a wash", x, x.addCleaning(0, 1, 0), 1);
        x.addCleaning(0, 0, 0);
        Check.refused("a second hour", x, x.addCleaning(1, 0, 0), 2);
        x.setHours(0, 0, 2);
        Check.refused("the same mirror", x, x.addCleaning(0, 0, 0), 3);
        for (int i = 1; i < 12; i++) {
            x.addCleaning(0, 0, i);
        }
        Check.refused("a thirteenth", x, x.addCleaning(0, 0, 12), 4);
        for (int i = 0; i < 10; i++) {
            x.setDust(0, 0, 0);
            x.setMagnitude(0, 0, 0);
        }
        Check.refused("an eleventh rate", x, x.setDust(0, 0, 0), 5);
        Check.refused("a thirteenth", x, x.addCleaning(0, 0, 12), 4);
        Check.refused("an eleventh magnitude", x, x.setMagnitude(0, 0, 0), 5);
    }

    private static void reasonAtFirst() {
        Check.says("The reason is 0 at first");
        MirrorPlanner x = new MirrorPlanner();
        Check.due("count(5)", x.count(5), 0);
        x.addMirror(-1, 0);
        x.addCleaning(0, 0, 0);
        x.undo();
        Check.due("count(5) behind errors that are no refusals", x.count(5), 0);
    }

    private static void reasonStays() {
        Check.says("and stays until the next refusal");
        MirrorPlanner x = Check.withCrewAndMirrors(1, 2, 1);
        Check.refused("a wash", x, x.addCleaning(0, 1, 0), 1);
        Check.due("an act", x.addCleaning(0, 0, 0), 0);
        Check.due("count(5)", x.count(5), 1);
        Check.due("UNKNOWN", x.addCleaning(7, 0, 0), Check.UNKNOWN);
        Check.due("BAD_VALUE", x.addCleaning(0, 0, 60), Check.BAD_VALUE);
        x.pass(1);
        Check.due("count(5)", x.count(5), 1);
        x.addCleaning(0, 0, 0);
        Check.refused("the same mirror", x, x.addCleaning(0, 0, 0), 3);
        Check.refused("a wash", x, x.addCleaning(0, 1, 1), 1);
    }

    private static void sixStates() {
        Check.says("A history of at most 6 states is kept; when one more is recorded, the oldest is dropped");
        MirrorPlanner x = new MirrorPlanner();
        for (int i = 1; i <= 7; i++) {
            x.pass(1);
            Check.due("states behind " + i, x.count(6), Math.min(i, 6));
        }
        for (int i = 1; i <= 6; i++) {
            Check.due("undo()", x.undo(), 6 - i);
            Check.due("count(0)", x.count(0), 7 - i);
        }
        Check.due("the state before the first night was dropped", x.undo(), Check.NONE);
        Check.due("count(0)", x.count(0), 1);
        MirrorPlanner y = new MirrorPlanner();
        for (int i = 0; i < 6; i++) {
            y.pass(1);
        }
        for (int i = 0; i < 6; i++) {
            y.undo();
        }
        Check.due("of six none is dropped", y.count(0), 0);
    }

    private static void roundAndRound() {
        Check.says("undo() removes and restores the latest");
        MirrorPlanner x = new MirrorPlanner();
        for (int i = 0; i < 20; i++) {
            x.pass(1);
        }
        for (int i = 0; i < 4; i++) {
            x.undo();
        }
        Check.due("count(0)", x.count(0), 16);
        Check.due("states", x.count(6), 2);
        x.pass(10);
        x.pass(20);
        x.pass(30);
        Check.due("states", x.count(6), 5);
        int[] nights = {46, 26, 16, 15, 14};
        for (int i = 0; i < 5; i++) {
            Check.due("undo()", x.undo(), 4 - i);
            Check.due("count(0)", x.count(0), nights[i]);
        }
        Check.due("undo() of none", x.undo(), Check.NONE);
        Check.due("count(0)", x.count(0), 14);
    }

    /** Four states: a mirror, a period, a person, hours. */
    private static MirrorPlanner small() {
        MirrorPlanner x = new MirrorPlanner();
        x.addMirror(50, 5);
        x.setMagnitude(3, 4, 5);
        x.addPerson();
        x.setHours(0, 0, 3);
        return x;
    }

    private static void act(String call, MirrorPlanner x, long answer) {
        Check.holds(call + " answers no error", answer >= 0);
        Check.due("states behind " + call, x.count(6), 5);
        Check.due("undo() of " + call, x.undo(), 4);
    }

    private static void acts() {
        Check.says("Each call of a method that is described as an act, and returns no error (a refusal is one) and "
            + "not NONE, records the state that was before it.");
        MirrorPlanner x = small();
        act("addMirror()", x, x.addMirror(1, 1));
        act("setDust()", x, x.setDust(1, 1, 1));
        act("setMagnitude()", x, x.setMagnitude(1, 1, 1));
        act("clearPeriods()", x, x.clearPeriods());
        act("addPerson()", x, x.addPerson());
        act("setHours()", x, x.setHours(0, 0, 4));
        act("setOff()", x, x.setOff(0, 0, 4));
        act("addCleaning()", x, x.addCleaning(0, 0, 0));
        act("pass()", x, x.pass(9));
        Check.type(x, "nights 3;nights 4");
        act("runOrders()", x, x.runOrders());
        x.keep(0);
        act("restore()", x, x.restore(0));
        x.undo();
        x.setHours(0, 0, 1);
        Check.due("all is as before", x.count(1) + x.count(2) + x.night(3, 1) + x.count(0), 7);
        x.undo();
        x.addCleaning(0, 0, 0);
        x.undo();
        MirrorPlanner y = new MirrorPlanner();
        y.addMirror(1, 1);
        y.addPerson();
        y.setHours(0, 0, 1);
        y.addCleaning(0, 0, 0);
        act("dropCleaning()", y, y.dropCleaning(0));
        Check.due("it is in the plan again", y.count(3), 1);
    }

    private static void actsWithoutChange() {
        Check.says("records the state that was before it");
        MirrorPlanner x = small();
        act("the same hours", x, x.setHours(0, 0, 3));
        act("hours of 0", x, x.setHours(0, 1, 0));
        Check.type(x, "drop 0");
        act("orders of which none is carried out", x, x.runOrders());
        x.keep(1);
        act("the state that is there", x, x.restore(1));
        x.setOff(0, 3, 4);
        x.undo();
        act("a day off without hours", x, x.setOff(0, 1, 1));
    }

    private static void noActs() {
        Check.says("Each call of a method that is described as an act");
        MirrorPlanner x = small();
        Check.due("bestDay()", x.bestDay(0, 0, 9), 7);
        Check.due("bestPair()", x.bestPair(0, 0, 9), 7);
        x.type('n');
        x.clearText();
        x.failure(0);
        x.keep(0);
        x.keep(1);
        x.mirror(0, 0);
        x.lost(0);
        x.lossAhead(60, 0);
        x.lossAhead(60, 1);
        x.night(0, 0);
        x.day(0, 2);
        x.hours(0, 0);
        x.planned(0, 0);
        x.log(0, 0);
        for (int what = 0; what < 10; what++) {
            x.count(what);
        }
        Check.due("none of them is recorded", x.count(6), 4);
        Check.due("nor is undo()", x.undo(), 3);
        Check.due("count(6)", x.count(6), 3);
    }

    private static void errorsAreNoActs() {
        Check.says("and returns no error (a refusal is one)");
        MirrorPlanner x = small();
        Check.due("addMirror()", x.addMirror(101, 0), Check.BAD_VALUE);
        Check.due("setDust()", x.setDust(0, 0, 501), Check.BAD_VALUE);
        Check.due("setMagnitude()", x.setMagnitude(0, 0, 31), Check.BAD_VALUE);
        Check.due("setHours()", x.setHours(1, 0, 0), Check.UNKNOWN);
        Check.due("setOff()", x.setOff(0, 1, 0), Check.BAD_VALUE);
        Check.due("addCleaning()", x.addCleaning(1, 0, 0), Check.UNKNOWN);
        Check.due("addCleaning()", x.addCleaning(0, 1, 0), Check.REFUSED);
        Check.due("dropCleaning()", x.dropCleaning(0), Check.UNKNOWN);
        Check.due("pass()", x.pass(0), Check.BAD_VALUE);
        Check.due("runOrders()", x.runOrders(), -100);
        Check.due("restore()", x.restore(2), Check.UNKNOWN);
        Check.due("none of them is recorded", x.count(6), 4);
        MirrorPlanner y = new MirrorPlanner();
        for (int i = 0; i < 10; i++) {
            y.setDust(i, i, i);
            y.setMagnitude(i, i, i);
        }
        y.undo();
        y.undo();
        y.setDust(9, 9, 9);
        Check.due("setDust()", y.setDust(0, 0, 0), Check.REFUSED);
        Check.due("a refused period is not recorded", y.count(6), 5);
    }

    private static void noneIsNoAct() {
        Check.says("and not NONE");
        MirrorPlanner x = small();
        Check.due("undo() of the hours", x.undo(), 3);
        Check.due("restore() of an empty slot", x.restore(0), Check.NONE);
        Check.due("count(6)", x.count(6), 3);
        Check.due("clearPeriods()", x.clearPeriods(), 1);
        Check.due("clearPeriods() of none", x.clearPeriods(), Check.NONE);
        Check.due("count(6)", x.count(6), 4);
    }

    private static void undoneMirrors() {
        Check.says("A state is everything but the text, the history, the slots, the reason, the failed order and its "
            + "cause.");
        MirrorPlanner x = Check.withCrewAndMirrors(3, 12, 0);
        x.addMirror(11, 12);
        x.addMirror(13, 14);
        x.keep(0);
        x.pass(3);
        x.addCleaning(0, 2, 0);
        x.addCleaning(1, 1, 0);
        x.keep(1);
        x.pass(2);
        Check.due("undo()", x.undo(), 5);
        int[][] properties = {{11, 12, 60, 3, 0, 42}, {13, 14, 60, 3, 0, 48}};
        for (int i = 0; i < 2; i++) {
            for (int what = 0; what < 6; what++) {
                Check.due("mirror(" + i + ", " + what + ")", x.mirror(i, what), properties[i][what]);
            }
        }
        // losses 14, 28, 42 by 11 and 16, 32, 48 by 13, with 325
        Check.due("lost(0)", x.lost(0), 50 + 100 + 150);
        Check.due("lost(1)", x.lost(1), 67 + 135 + 202);
        x.restore(0);
        Check.due("lost(1) of the slot", x.lost(1), 0);
        Check.due("dust of the slot", x.mirror(1, 2), 0);
        Check.due("age of the slot", x.mirror(0, 3), 0);
        x.restore(1);
        Check.due("lost(1) of the other one", x.lost(1), 404);
        x.pass(1);
        Check.due("cleanings", x.mirror(1, 4), 1);
        x.undo();
        Check.due("cleanings behind undo", x.mirror(1, 4), 0);
        MirrorPlanner y = new MirrorPlanner();
        y.addMirror(1, 2);
        y.keep(0);
        y.undo();
        y.addMirror(3, 4);
        y.restore(0);
        Check.due("the weight of the slot", y.mirror(0, 0), 1);
        Check.due("the wear of the slot", y.mirror(0, 1), 2);
        y.undo();
        Check.due("the weight behind undo", y.mirror(0, 0), 3);
        Check.due("the wear behind undo", y.mirror(0, 1), 4);
    }

    private static void undonePeriods() {
        Check.says("A state is everything but");
        MirrorPlanner x = new MirrorPlanner();
        x.setDust(1, 2, 3);
        x.setMagnitude(11, 12, 13);
        x.keep(0);
        x.clearPeriods();
        x.setDust(4, 6, 8);
        x.setMagnitude(14, 16, 18);
        for (int round = 0; round < 2; round++) {
            Check.due("night(1, 0)", x.night(1, 0), 20);
            Check.due("night(4, 0)", x.night(4, 0), 8);
            Check.due("night(14, 1)", x.night(14, 1), 18);
            x.restore(0);
            int[] nights = {0, 1, 2, 3, 4, 6};
            int[] rates = {20, 3, 3, 20, 20, 20};
            for (int i = 0; i < nights.length; i++) {
                Check.due("night(" + nights[i] + ", 0)", x.night(nights[i], 0), rates[i]);
            }
            Check.due("night(11, 1)", x.night(11, 1), 13);
            Check.due("night(12, 1)", x.night(12, 1), 13);
            Check.due("night(13, 1)", x.night(13, 1), 15);
            Check.due("night(14, 1)", x.night(14, 1), 15);
            x.undo();
        }
        x.undo();
        x.undo();
        x.undo();
        Check.due("night(2, 0) behind undo", x.night(2, 0), 3);
        Check.due("night(12, 1) behind undo", x.night(12, 1), 13);
        Check.due("night(4, 0) behind undo", x.night(4, 0), 20);
        Check.due("one of each sort", x.clearPeriods(), 2);
    }

    private static void undoneCrew() {
        Check.says("A state is everything but");
        MirrorPlanner x = Check.withCrew(5, 1);
        x.setHours(4, 6, 11);
        x.setHours(0, 0, 10);
        x.setOff(4, 20, 21);
        x.setOff(0, 0, 6);
        x.setHours(4, 6, 2);
        x.setHours(0, 0, 3);
        x.setOff(4, 34, 35);
        x.setOff(0, 7, 8);
        Check.due("day(34, 1)", x.day(34, 1), 4);
        x.keep(0);
        for (int i = 0; i < 4; i++) {
            x.undo();
        }
        Check.due("hours(4, 6)", x.hours(4, 6), 11);
        Check.due("hours(0, 0)", x.hours(0, 0), 10);
        Check.due("day(20, 1), one is off", x.day(20, 1), 4);
        Check.due("day(34, 1), nobody is off", x.day(34, 1), 15);
        Check.due("day(0, 1), one is off", x.day(0, 1), 4);
        Check.due("day(7, 1), nobody is off", x.day(7, 1), 14);
        x.restore(0);
        Check.due("hours(4, 6) of the slot", x.hours(4, 6), 2);
        Check.due("day(7, 1) of the slot", x.day(7, 1), 4);
        Check.due("day(34, 1) of the slot", x.day(34, 1), 4);
        Check.due("day(20, 1) of the slot", x.day(20, 1), 6);
        x.undo();
        x.addPerson();
        x.undo();
        Check.due("people", x.count(2), 5);
    }

    private static void undonePlan() {
        Check.says("A state is everything but");
        MirrorPlanner x = Check.withCrewAndMirrors(3, 12, 2);
        x.addCleaning(0, 1, 4);
        x.addCleaning(1, 2, 7);
        x.keep(0);
        x.dropCleaning(0);
        x.dropCleaning(0);
        x.addCleaning(1, 0, 5);
        x.addCleaning(0, 2, 6);
        for (int round = 0; round < 2; round++) {
            x.restore(0);
            int[][] rows = {{0, 1, 4}, {1, 2, 7}};
            for (int place = 0; place < 2; place++) {
                for (int what = 0; what < 3; what++) {
                    Check.due("planned(" + place + ", " + what + ")", x.planned(place, what), rows[place][what]);
                }
            }
            Check.due("count(3)", x.count(3), 2);
            x.undo();
            Check.due("planned(0, 1) behind undo", x.planned(0, 1), 0);
            Check.due("planned(1, 0) behind undo", x.planned(1, 0), 0);
            Check.due("planned(1, 2) behind undo", x.planned(1, 2), 6);
        }
        for (int i = 0; i < 4; i++) {
            x.undo();
        }
        Check.due("planned(1, 1) behind undo", x.planned(1, 1), 2);
        Check.due("planned(0, 0) behind undo", x.planned(0, 0), 0);
        Check.due("planned(0, 2) behind undo", x.planned(0, 2), 4);
    }

    private static void undoneLog() {
        Check.says("A state is everything but");
        MirrorPlanner x = Check.withCrewAndMirrors(3, 12, 2);
        x.addCleaning(0, 1, 0);
        x.pass(1);
        x.keep(0);
        x.addCleaning(1, 2, 0);
        x.setOff(0, 1, 1);
        x.pass(1);
        int[] latest = {1, 2, 1, 0};
        int[] before = {0, 1, 0, 1};
        for (int what = 0; what < 4; what++) {
            Check.due("log(0, " + what + ")", x.log(0, what), latest[what]);
            Check.due("log(1, " + what + ")", x.log(1, what), before[what]);
        }
        x.undo();
        for (int what = 0; what < 4; what++) {
            Check.due("log(0, " + what + ") behind undo", x.log(0, what), before[what]);
            Check.due("log(1, " + what + ") behind undo", x.log(1, what), Check.NONE);
        }
        x.pass(1);
        x.restore(0);
        for (int what = 0; what < 4; what++) {
            Check.due("log(0, " + what + ") of the slot", x.log(0, what), before[what]);
        }
        Check.due("count(4)", x.count(4), 1);
    }

    private static void undoneNumbers() {
        Check.says("A state is everything but");
        MirrorPlanner x = Check.withCrewAndMirrors(2, 2, 2);
        x.addCleaning(0, 1, 0);
        x.addCleaning(1, 0, 1);
        x.keep(0);
        x.setOff(1, 1, 1);
        x.setOff(0, 1, 1);
        x.pass(2);
        int[] numbers = {2, 2, 2, 0, 2};
        for (int what = 0; what < 5; what++) {
            Check.due("count(" + what + ")", x.count(what), numbers[what]);
        }
        Check.due("count(7)", x.count(7), 1);
        Check.due("count(8)", x.count(8), 1);
        Check.due("count(9)", x.count(9), 4);
        x.keep(1);
        x.undo();
        for (int what = 7; what < 10; what++) {
            Check.due("count(" + what + ") behind undo", x.count(what), 0);
        }
        Check.due("count(0) behind undo", x.count(0), 0);
        x.restore(1);
        Check.due("count(7) of the slot", x.count(7), 1);
        Check.due("count(8) of the slot", x.count(8), 1);
        Check.due("count(9) of the slot", x.count(9), 4);
        Check.due("count(0) of the slot", x.count(0), 2);
        x.restore(0);
        Check.due("count(9) of the first slot", x.count(9), 0);
        Check.due("count(3) of the first slot", x.count(3), 2);
    }

    private static void textAndHistoryStay() {
        Check.says("everything but the text, the history");
        MirrorPlanner x = new MirrorPlanner();
        x.keep(0);
        Check.type(x, "nights 1");
        x.addMirror(1, 1);
        x.type('2');
        x.undo();
        Check.due("the text behind undo", x.runOrders(), 1);
        Check.due("nights 12", x.count(0), 12);
        x.restore(0);
        Check.due("the text behind restore", x.runOrders(), 1);
        Check.due("nights 12", x.count(0), 12);
        Check.due("states", x.count(6), 3);
        x.keep(0);
        x.undo();
        x.undo();
        Check.due("restore()", x.restore(0), 12);
        Check.due("the slot holds no history", x.count(6), 2);
        Check.due("undo() of it", x.undo(), 1);
        Check.due("count(0)", x.count(0), 12);
        Check.due("undo() of the first orders", x.undo(), 0);
        Check.due("count(0)", x.count(0), 0);
        Check.due("the text", x.clearText(), 9);
    }

    private static void slotsStay() {
        Check.says("There are two slots for snapshots, empty at first.");
        MirrorPlanner x = new MirrorPlanner();
        Check.due("slot 0 at first", x.restore(0), Check.NONE);
        Check.due("slot 1 at first", x.restore(1), Check.NONE);
        x.pass(1);
        x.keep(0);
        Check.due("slot 1 behind keep(0)", x.restore(1), Check.NONE);
        x.pass(1);
        x.keep(1);
        x.pass(1);
        x.undo();
        x.undo();
        x.undo();
        Check.due("slot 0 behind undo", x.restore(0), 1);
        Check.due("slot 1 behind undo", x.restore(1), 2);
        Check.due("slot 0 behind restore(1)", x.restore(0), 1);
    }

    private static void reasonAndFailureStay() {
        Check.says("the reason, the failed order and its cause");
        MirrorPlanner x = Check.withCrewAndMirrors(1, 1, 1);
        Check.run(x, "nights 1;wash 0 0");
        x.keep(0);
        x.addCleaning(0, 0, 0);
        x.addCleaning(0, 0, 0);
        Check.due("count(5)", x.count(5), 2);
        Check.run(x, "nights 1;nights 1;drop 5");
        x.undo();
        Check.due("the reason behind undo", x.count(5), 2);
        Check.due("the failed order behind undo", x.failure(0), 2);
        Check.due("its cause behind undo", x.failure(1), 11);
        x.restore(0);
        Check.due("the reason behind restore", x.count(5), 2);
        Check.due("the failed order behind restore", x.failure(0), 2);
        Check.due("its cause behind restore", x.failure(1), 11);
    }

    private static void statesThatAreLeft() {
        Check.says("Returns the number of states that are left; NONE if the history is empty.");
        MirrorPlanner x = new MirrorPlanner();
        Check.due("undo() of a new object", x.undo(), Check.NONE);
        Check.due("count(6)", x.count(6), 0);
        x.addMirror(1, 1);
        Check.due("undo() of one", x.undo(), 0);
        Check.due("count(1)", x.count(1), 0);
        Check.due("undo() of none", x.undo(), Check.NONE);
        Check.due("undo() of none", x.undo(), Check.NONE);
        x.addMirror(1, 1);
        x.addMirror(1, 1);
        Check.due("undo() of two", x.undo(), 1);
        Check.due("count(1)", x.count(1), 1);
    }

    private static void emptySlots() {
        Check.says("Returns the present night then; UNKNOWN; NONE if the slot is empty.");
        MirrorPlanner x = new MirrorPlanner();
        int[] unknown = {-1, 2, MIN, MAX};
        for (int slot : unknown) {
            Check.due("restore(" + slot + ")", x.restore(slot), Check.UNKNOWN);
        }
        Check.due("restore(1)", x.restore(1), Check.NONE);
        x.pass(5);
        x.keep(1);
        x.pass(7);
        for (int slot : unknown) {
            Check.due("restore(" + slot + ")", x.restore(slot), Check.UNKNOWN);
        }
        Check.due("restore(0)", x.restore(0), Check.NONE);
        Check.due("count(0)", x.count(0), 12);
        Check.due("restore(1)", x.restore(1), 5);
        Check.due("count(0)", x.count(0), 5);
    }

    private static void kept() {
        Check.says("Returns the present night; UNKNOWN.");
        MirrorPlanner x = new MirrorPlanner();
        int[] unknown = {-1, 2, MIN, MAX};
        for (int slot : unknown) {
            Check.due("keep(" + slot + ")", x.keep(slot), Check.UNKNOWN);
        }
        Check.due("keep(0) of a new object", x.keep(0), 0);
        x.pass(60);
        Check.due("keep(1)", x.keep(1), 60);
        Check.due("keep(0)", x.keep(0), 60);
        Check.due("the present night stays", x.count(0), 60);
    }

    private static void inPlace() {
        Check.says("Takes a snapshot of the state into a slot, in place of what is there.");
        MirrorPlanner x = new MirrorPlanner();
        x.pass(3);
        x.keep(0);
        x.keep(1);
        x.pass(4);
        Check.due("keep(0)", x.keep(0), 7);
        x.pass(5);
        Check.due("restore(0)", x.restore(0), 7);
        Check.due("restore(1)", x.restore(1), 3);
        Check.due("keep(0) of an earlier night", x.keep(0), 3);
        x.pass(1);
        Check.due("restore(0)", x.restore(0), 3);
    }

    private static void slotStays() {
        Check.says("Restores the state of a slot, where it stays.");
        MirrorPlanner x = Check.withCrewAndMirrors(1, 12, 1);
        x.addCleaning(0, 0, 3);
        x.keep(0);
        for (int round = 0; round < 3; round++) {
            x.pass(4);
            x.addMirror(9, 9);
            x.setDust(0, 9, 9);
            x.setHours(0, 0, 1);
            x.setOff(0, 0, 9);
            Check.due("restore(0)", x.restore(0), 0);
            Check.due("count(1)", x.count(1), 1);
            Check.due("count(3)", x.count(3), 1);
            Check.due("count(4)", x.count(4), 0);
            Check.due("night(0, 0)", x.night(0, 0), 20);
            Check.due("hours(0, 0)", x.hours(0, 0), 12);
            Check.due("day(0, 0)", x.day(0, 0), 1);
            Check.due("mirror(0, 2)", x.mirror(0, 2), 0);
        }
    }

    private static void restoreIsAnAct() {
        Check.says("Restores the state of a slot, where it stays. This is an act.");
        MirrorPlanner x = new MirrorPlanner();
        x.pass(2);
        x.keep(0);
        x.pass(3);
        Check.due("restore(0)", x.restore(0), 2);
        Check.due("count(6)", x.count(6), 3);
        Check.due("undo() of it", x.undo(), 2);
        Check.due("count(0)", x.count(0), 5);
        for (int i = 0; i < 9; i++) {
            x.restore(0);
        }
        Check.due("of nine six are kept", x.count(6), 6);
        for (int i = 0; i < 6; i++) {
            x.undo();
        }
        Check.due("count(0)", x.count(0), 2);
    }

    private static void restoredState() {
        Check.says("Returns the present night then");
        MirrorPlanner x = new MirrorPlanner();
        x.keep(0);
        x.pass(60);
        x.keep(1);
        Check.due("restore(0)", x.restore(0), 0);
        Check.due("restore(1)", x.restore(1), 60);
        Check.due("restore(1) once more", x.restore(1), 60);
        Check.due("count(0)", x.count(0), 60);
    }

    private static void counts() {
        Check.says("Returns the number; BAD_VALUE.");
        MirrorPlanner x = new MirrorPlanner();
        int[] bad = {-1, 10, MIN, MAX};
        for (int what : bad) {
            Check.due("count(" + what + ")", x.count(what), Check.BAD_VALUE);
        }
        for (int what = 0; what < 10; what++) {
            Check.due("count(" + what + ")", x.count(what), 0);
        }
    }

    private static void cleaningsAndHours() {
        Check.says("7 for the number of cleanings that were done, 8 for that of missed ones, 9 for the hours that "
            + "cleanings took which were done");
        MirrorPlanner x = Check.withCrewAndMirrors(3, 6, 3);
        x.addCleaning(0, 0, 0);
        x.addCleaning(1, 1, 0);
        x.addCleaning(2, 2, 0);
        x.addCleaning(0, 2, 1);
        x.addCleaning(1, 1, 2);
        x.addCleaning(1, 1, 9);
        x.setOff(2, 1, 1);
        x.dropCleaning(4);
        Check.due("planned ones do not count", x.count(7) + x.count(8) + x.count(9), 0);
        x.pass(1);
        Check.due("done in night 0", x.count(7), 3);
        Check.due("hours of night 0", x.count(9), 17);
        x.pass(1);
        Check.due("missed in night 1", x.count(8), 1);
        Check.due("hours of a missed one", x.count(9), 17);
        x.pass(20);
        Check.due("done in all", x.count(7), 4);
        Check.due("missed in all", x.count(8), 1);
        Check.due("hours in all", x.count(9), 21);
        Check.due("cleanings in the log", x.count(4), 5);
        for (int round = 0; round < 2; round++) {
            for (int i = 0; i < 12; i++) {
                x.addCleaning(i % 3, 0, i);
            }
            x.pass(12);
        }
        Check.due("more than the log keeps", x.count(7), 28);
        Check.due("the log", x.count(4), 12);
    }
}
