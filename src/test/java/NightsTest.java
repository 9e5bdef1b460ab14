/** Promises 1 to 5 and 24: a new object, mirrors, periods, nights. */
public final class NightsTest {
    public static void main(String[] args) {
        newObject();
        addMirror();
        setDust();
        setMagnitude();
        clearPeriods();
        night();
        Check.end();
    }

    private static void newObject() {
        MirrorPlanner x = new MirrorPlanner();
        for (int what = 0; what <= 9; what++) {
            Check.due("new: count(" + what + ")", x.count(what), 0);
        }
        Check.due("new: mirror(0, 0)", x.mirror(0, 0), Check.UNKNOWN);
        Check.due("new: lost(0)", x.lost(0), Check.UNKNOWN);
        Check.due("new: hours(0, 0)", x.hours(0, 0), Check.UNKNOWN);
        Check.due("new: planned(0, 0)", x.planned(0, 0), Check.NONE);
        Check.due("new: log(0, 0)", x.log(0, 0), Check.NONE);
        Check.due("new: failure(0)", x.failure(0), Check.NONE);
        Check.due("new: failure(1)", x.failure(1), Check.NONE);
        Check.due("new: undo()", x.undo(), Check.NONE);
        Check.due("new: restore(0)", x.restore(0), Check.NONE);
        Check.due("new: restore(1)", x.restore(1), Check.NONE);
        Check.due("new: clearText()", x.clearText(), 0);
        Check.due("new: lossAhead(60, 0)", x.lossAhead(60, 0), 0);
        Check.due("new: night(0, 0)", x.night(0, 0), 20);
        Check.due("new: night(9999, 1)", x.night(9999, 1), 15);
        Check.due("new: day(0, 0)", x.day(0, 0), 0);
        Check.due("new: pass(1)", x.pass(1), 0);
        MirrorPlanner other = new MirrorPlanner();
        x.addMirror(1, 1);
        Check.due("another object has no mirror", other.count(1), 0);
    }

    private static void addMirror() {
        MirrorPlanner x = new MirrorPlanner();
        Check.due("addMirror(-1, 0)", x.addMirror(-1, 0), Check.BAD_VALUE);
        Check.due("addMirror(101, 0)", x.addMirror(101, 0), Check.BAD_VALUE);
        Check.due("addMirror(0, -1)", x.addMirror(0, -1), Check.BAD_VALUE);
        Check.due("addMirror(0, 21)", x.addMirror(0, 21), Check.BAD_VALUE);
        Check.due("addMirror(min, max)", x.addMirror(Integer.MIN_VALUE, Integer.MAX_VALUE), Check.BAD_VALUE);
        Check.due("errors are not recorded", x.count(6), 0);
        Check.due("addMirror(0, 0)", x.addMirror(0, 0), 0);
        Check.due("addMirror(100, 20)", x.addMirror(100, 20), 1);
        Check.due("addMirror(7, 8)", x.addMirror(7, 8), 2);
        Check.due("addMirror(9, 10)", x.addMirror(9, 10), 3);
        Check.due("a fifth mirror of bad weight", x.addMirror(101, 0), Check.BAD_VALUE);
        Check.due("a fifth mirror", x.addMirror(1, 1), Check.FULL);
        Check.due("FULL is not recorded", x.count(6), 4);
        Check.due("mirrors", x.count(1), 4);
        Check.due("mirror(1, 0)", x.mirror(1, 0), 100);
        Check.due("mirror(1, 1)", x.mirror(1, 1), 20);
        Check.due("mirror(2, 0)", x.mirror(2, 0), 7);
        x.pass(5);
        x.undo();
        x.undo();
        Check.due("mirrors behind undo", x.count(1), 3);
        x.pass(3);
        Check.due("a new mirror in place of one undone", x.addMirror(4, 5), 3);
        Check.due("its dust", x.mirror(3, 2), 0);
        Check.due("its age", x.mirror(3, 3), 0);
        Check.due("its loss so far", x.lost(3), 0);
    }

    private static void setDust() {
        MirrorPlanner x = new MirrorPlanner();
        Check.due("setDust(-1, 0, 0)", x.setDust(-1, 0, 0), Check.BAD_VALUE);
        Check.due("setDust(10000, 10000, 0)", x.setDust(10000, 10000, 0), Check.BAD_VALUE);
        Check.due("setDust(5, 4, 0)", x.setDust(5, 4, 0), Check.BAD_VALUE);
        Check.due("setDust(5, 10000, 0)", x.setDust(5, 10000, 0), Check.BAD_VALUE);
        Check.due("setDust(5, 5, -1)", x.setDust(5, 5, -1), Check.BAD_VALUE);
        Check.due("setDust(5, 5, 501)", x.setDust(5, 5, 501), Check.BAD_VALUE);
        Check.due("setDust(0, 9999, 500)", x.setDust(0, 9999, 500), 1);
        Check.due("setDust(5, 5, 0)", x.setDust(5, 5, 0), 2);
        for (int i = 3; i <= 10; i++) {
            Check.due("setDust(" + i + ", 9, 1)", x.setDust(i, 10, i), i);
        }
        Check.due("setMagnitude() has room of its own", x.setMagnitude(0, 0, 0), 1);
        Check.due("reason ahead of the refusal", x.count(5), 0);
        Check.due("a bad eleventh period", x.setDust(0, 0, 501), Check.BAD_VALUE);
        Check.due("an eleventh period", x.setDust(0, 0, 0), Check.REFUSED);
        Check.due("its reason", x.count(5), 5);
        Check.due("it changes nothing", x.night(0, 0), 500);
        Check.due("it is not recorded", x.undo(), 5);
        Check.due("reason behind undo", x.count(5), 5);
        Check.due("the last one told is undone", x.night(0, 1), 15);
    }

    private static void setMagnitude() {
        MirrorPlanner x = new MirrorPlanner();
        Check.due("setMagnitude(-1, 0, 0)", x.setMagnitude(-1, 0, 0), Check.BAD_VALUE);
        Check.due("setMagnitude(10000, 10000, 0)", x.setMagnitude(10000, 10000, 0), Check.BAD_VALUE);
        Check.due("setMagnitude(5, 4, 0)", x.setMagnitude(5, 4, 0), Check.BAD_VALUE);
        Check.due("setMagnitude(5, 10000, 0)", x.setMagnitude(5, 10000, 0), Check.BAD_VALUE);
        Check.due("setMagnitude(5, 5, -1)", x.setMagnitude(5, 5, -1), Check.BAD_VALUE);
        Check.due("setMagnitude(5, 5, 31)", x.setMagnitude(5, 5, 31), Check.BAD_VALUE);
        Check.due("setMagnitude(9999, 9999, 30)", x.setMagnitude(9999, 9999, 30), 1);
        Check.due("night(9999, 1)", x.night(9999, 1), 30);
        Check.due("night(9998, 1)", x.night(9998, 1), 15);
        Check.due("night(9999, 0)", x.night(9999, 0), 20);
        for (int i = 2; i <= 10; i++) {
            Check.due("setMagnitude(0, 0, 0)", x.setMagnitude(0, 0, 0), i);
        }
        Check.due("an eleventh magnitude", x.setMagnitude(0, 0, 0), Check.REFUSED);
        Check.due("its reason", x.count(5), 5);
        Check.due("setDust() has room of its own", x.setDust(0, 0, 0), 1);
    }

    private static void clearPeriods() {
        MirrorPlanner x = new MirrorPlanner();
        Check.due("clearPeriods() of none", x.clearPeriods(), Check.NONE);
        Check.due("NONE is not recorded", x.count(6), 0);
        x.setDust(0, 9, 1);
        x.setDust(0, 9, 2);
        x.setMagnitude(0, 9, 3);
        Check.due("clearPeriods()", x.clearPeriods(), 3);
        Check.due("rate behind it", x.night(0, 0), 20);
        Check.due("magnitude behind it", x.night(0, 1), 15);
        Check.due("clearPeriods() again", x.clearPeriods(), Check.NONE);
        Check.due("it is recorded", x.undo(), 3);
        Check.due("rate behind undo", x.night(0, 0), 2);
        Check.due("magnitude behind undo", x.night(0, 1), 3);
        x.clearPeriods();
        Check.due("the first period again", x.setDust(0, 0, 9), 1);
        Check.due("periods of one sort", x.clearPeriods(), 1);
    }

    private static void night() {
        MirrorPlanner x = new MirrorPlanner();
        x.setDust(10, 20, 100);
        x.setDust(15, 30, 0);
        x.setDust(12, 13, 500);
        x.setMagnitude(10, 20, 0);
        x.setMagnitude(20, 20, 30);
        Check.due("night(9, 0)", x.night(9, 0), 20);
        Check.due("night(10, 0)", x.night(10, 0), 100);
        Check.due("night(12, 0)", x.night(12, 0), 500);
        Check.due("night(13, 0)", x.night(13, 0), 500);
        Check.due("night(14, 0)", x.night(14, 0), 100);
        Check.due("night(15, 0)", x.night(15, 0), 0);
        Check.due("night(30, 0)", x.night(30, 0), 0);
        Check.due("night(31, 0)", x.night(31, 0), 20);
        Check.due("night(10, 1)", x.night(10, 1), 0);
        Check.due("night(20, 1)", x.night(20, 1), 30);
        Check.due("night(21, 1)", x.night(21, 1), 15);
        Check.due("night(-1, 0)", x.night(-1, 0), Check.BAD_VALUE);
        Check.due("night(10000, 1)", x.night(10000, 1), Check.BAD_VALUE);
        Check.due("night(0, -1)", x.night(0, -1), Check.BAD_VALUE);
        Check.due("night(0, 2)", x.night(0, 2), Check.BAD_VALUE);
    }
}
