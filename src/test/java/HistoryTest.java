/** Promises 18 to 20 and 29: undo, snapshots, numbers. */
public final class HistoryTest {
    public static void main(String[] args) {
        undo();
        undoOfAll();
        snapshots();
        count();
        Check.end();
    }

    private static void undo() {
        MirrorPlanner x = new MirrorPlanner();
        Check.due("undo() of none", x.undo(), Check.NONE);
        for (int i = 0; i < 9; i++) {
            x.pass(i + 1);
            Check.due("states", x.count(6), Math.min(i + 1, 6));
        }
        int[] nights = {36, 28, 21, 15, 10, 6};
        for (int i = 0; i < 6; i++) {
            Check.due("undo()", x.undo(), 5 - i);
            Check.due("the night then", x.count(0), nights[i]);
        }
        Check.due("the oldest ones were dropped", x.undo(), Check.NONE);
        Check.due("NONE changes nothing", x.count(0), 6);
        x.pass(4);
        Check.due("a new state", x.count(6), 1);
        Check.due("undo() of it", x.undo(), 0);
        Check.due("the night then", x.count(0), 6);
    }

    private static void undoOfAll() {
        MirrorPlanner x = Check.withCrew(2, 5);
        x.addMirror(30, 2);
        x.addCleaning(0, 0, 1);
        x.addCleaning(0, 1, 9);
        x.pass(5);
        long lost = x.lost(0);
        x.setDust(0, 9999, 300);
        x.pass(20);
        x.undo();
        x.undo();
        Check.due("rate", x.night(7, 0), 20);
        Check.due("lost", x.lost(0), lost);
        Check.due("dust", x.mirror(0, 2), 90);
        Check.due("age", x.mirror(0, 3), 5);
        Check.due("cleanings", x.mirror(0, 4), 1);
        Check.due("plan", x.count(3), 1);
        Check.due("log", x.count(4), 1);
        Check.due("done", x.count(7), 1);
        Check.due("hours", x.count(9), 1);
        x.undo();
        Check.due("night", x.count(0), 0);
        Check.due("plan ahead of the nights", x.count(3), 2);
        Check.due("log ahead of the nights", x.count(4), 0);
        Check.due("done ahead of the nights", x.count(7), 0);
    }

    private static void snapshots() {
        MirrorPlanner x = new MirrorPlanner();
        Check.due("keep(-1)", x.keep(-1), Check.UNKNOWN);
        Check.due("keep(2)", x.keep(2), Check.UNKNOWN);
        Check.due("restore(-1)", x.restore(-1), Check.UNKNOWN);
        Check.due("restore(2)", x.restore(2), Check.UNKNOWN);
        Check.due("restore(0) of an empty slot", x.restore(0), Check.NONE);
        Check.due("NONE is not recorded", x.count(6), 0);
        x.pass(3);
        Check.due("keep(1)", x.keep(1), 3);
        Check.due("keep() is no act", x.count(6), 1);
        Check.due("the other slot is empty", x.restore(0), Check.NONE);
        x.addMirror(5, 5);
        x.pass(4);
        Check.due("keep(0)", x.keep(0), 7);
        Check.due("restore(1)", x.restore(1), 3);
        Check.due("restore() is an act", x.count(6), 4);
        Check.due("mirrors then", x.count(1), 0);
        Check.due("restore(0)", x.restore(0), 7);
        Check.due("mirrors of slot 0", x.count(1), 1);
        x.pass(1);
        Check.due("the slot stays as it was", x.restore(0), 7);
        x.pass(2);
        Check.due("keep(0) in place", x.keep(0), 9);
        Check.due("restore(0) of the new one", x.restore(0), 9);
        x.undo();
        Check.due("undo of restore()", x.count(0), 9);
        x.undo();
        Check.due("undo of pass(2)", x.count(0), 7);
        Check.due("slots are no part of the state", x.restore(0), 9);
    }

    private static void count() {
        MirrorPlanner x = Check.withCrew(2, 4);
        x.addMirror(1, 1);
        x.addCleaning(0, 1, 0);
        x.addCleaning(0, 0, 1);
        x.addCleaning(0, 0, 2);
        x.addCleaning(0, 0, 20);
        x.addCleaning(0, 2, 3);
        x.setOff(0, 1, 1);
        x.setOff(1, 1, 1);
        x.pass(4);
        int[] numbers = {4, 1, 2, 1, 3, 1, 6, 2, 1, 5};
        for (int what = 0; what <= 9; what++) {
            Check.due("count(" + what + ")", x.count(what), numbers[what]);
        }
        Check.due("count(-1)", x.count(-1), Check.BAD_VALUE);
        Check.due("count(10)", x.count(10), Check.BAD_VALUE);
    }
}
