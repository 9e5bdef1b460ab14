import java.util.ArrayList;
import java.util.List;

/**
 * ERRORS, the last sentence, and all answers that are no acts: of two planners that were made alike
 * one takes a call more, and behind it both must answer alike to the end.
 */
public final class UnchangedTest {
    private static final int MIN = Integer.MIN_VALUE;
    private static final int MAX = Integer.MAX_VALUE;

    private interface Call {
        long on(MirrorPlanner x);
    }

    private interface Maker {
        MirrorPlanner make();
    }

    public static void main(String[] args) {
        ofAnEmptyPlanner();
        ofAUsualPlanner();
        refusals();
        ofAFullPlanner();
        answers();
        Check.end();
    }

    /** All that a planner answers, then its text, its history and its slots; some 240 calls. */
    private static List<Long> look(MirrorPlanner x, boolean reasonToo) {
        List<Long> seen = new ArrayList<>();
        for (int what = 0; what < 10; what++) {
            seen.add(what == 5 && !reasonToo ? 0L : x.count(what));
        }
        lookAtParts(x, seen);
        seen.add((long) x.failure(0));
        seen.add((long) x.failure(1));
        seen.add(x.lossAhead(60, 0));
        seen.add(x.lossAhead(60, 1));
        for (int i = 0; i < 7; i++) {
            seen.add((long) x.undo());
            lookAtState(x, seen);
        }
        for (int slot = 0; slot < 2; slot++) {
            seen.add((long) x.restore(slot));
            lookAtState(x, seen);
        }
        seen.add((long) x.runOrders());
        seen.add((long) x.failure(0));
        lookAtState(x, seen);
        seen.add((long) x.clearText());
        return seen;
    }

    private static void lookAtParts(MirrorPlanner x, List<Long> seen) {
        for (int i = 0; i < 4; i++) {
            for (int what = 0; what < 6; what++) {
                seen.add((long) x.mirror(i, what));
            }
            seen.add(x.lost(i));
        }
        for (int i = 0; i < 5; i++) {
            seen.add((long) x.hours(i, i));
            seen.add((long) x.day(i, 1));
            seen.add((long) x.day(i, 2));
            seen.add((long) x.night(i, 0));
            seen.add((long) x.night(i, 1));
        }
        for (int i = 0; i < 12; i++) {
            seen.add((long) x.planned(i, 0));
            seen.add((long) x.planned(i, 1));
            seen.add((long) x.planned(i, 2));
            seen.add((long) x.log(i, 0));
            seen.add((long) x.log(i, 2));
            seen.add((long) x.log(i, 3));
        }
    }

    private static void lookAtState(MirrorPlanner x, List<Long> seen) {
        seen.add((long) x.count(0));
        seen.add((long) x.count(1));
        seen.add((long) x.count(2));
        seen.add((long) x.count(3));
        seen.add(x.lossAhead(60, 0));
        seen.add((long) x.day(3, 1));
    }

    private static void alike(String call, Maker maker, Call more) {
        alike(call, maker, more, true);
    }

    private static void alike(String call, Maker maker, Call more, boolean reasonToo) {
        MirrorPlanner x = maker.make();
        MirrorPlanner y = maker.make();
        more.on(x);
        Check.holds(call + " changes nothing", look(x, reasonToo).equals(look(y, reasonToo)));
    }

    private static void error(String call, Maker maker, long want, Call more) {
        Check.due(call, more.on(maker.make()), want);
        alike(call, maker, more, want != Check.REFUSED);
    }

    /** No people, no mirrors; a text that is right, so that its orders are carried out by the look. */
    private static MirrorPlanner empty() {
        MirrorPlanner x = new MirrorPlanner();
        Check.type(x, "nights 7");
        return x;
    }

    private static MirrorPlanner usual() {
        MirrorPlanner x = Check.withCrew(2, 5);
        x.addMirror(100, 3);
        x.addMirror(50, 7);
        x.setDust(3, 20, 200);
        x.setMagnitude(5, 30, 22);
        x.addCleaning(0, 1, 0);
        x.addCleaning(1, 0, 2);
        x.addCleaning(1, 1, 8);
        x.keep(0);
        x.pass(1);
        x.addCleaning(0, 0, 4);
        x.setOff(1, 9, 12);
        Check.type(x, "nights 1;snow 0 5;drop 7");
        x.runOrders();
        x.pass(1);
        return x;
    }

    private static MirrorPlanner full() {
        MirrorPlanner x = Check.withCrew(5, 6);
        for (int i = 0; i < 4; i++) {
            x.addMirror(20 + i, i);
        }
        for (int i = 0; i < 10; i++) {
            x.setDust(i, 2 * i, 50 * i);
            x.setMagnitude(i, 3 * i, 3 * i);
        }
        for (int i = 0; i < 12; i++) {
            x.addCleaning(i % 4, i % 3, i / 4);
        }
        x.keep(0);
        x.keep(1);
        Check.type(x, "nights 1;".repeat(9) + "nights 02");
        return x;
    }

    private static void ofAnEmptyPlanner() {
        Check.says("NONE is no error; it is returned only if no error applies. A call that returns an error or NONE "
            + "changes nothing");
        Maker empty = UnchangedTest::empty;
        error("clearPeriods()", empty, Check.NONE, x -> x.clearPeriods());
        error("undo()", empty, Check.NONE, x -> x.undo());
        error("restore(0)", empty, Check.NONE, x -> x.restore(0));
        error("restore(1)", empty, Check.NONE, x -> x.restore(1));
        error("failure(0)", empty, Check.NONE, x -> x.failure(0));
        error("planned(0, 0)", empty, Check.NONE, x -> x.planned(0, 0));
        error("log(0, 0)", empty, Check.NONE, x -> x.log(0, 0));
        error("restore(2)", empty, Check.UNKNOWN, x -> x.restore(2));
        error("keep(2)", empty, Check.UNKNOWN, x -> x.keep(2));
        error("keep(-1)", empty, Check.UNKNOWN, x -> x.keep(-1));
        error("setHours(0, 0, 1)", empty, Check.UNKNOWN, x -> x.setHours(0, 0, 1));
        error("setOff(0, 0, 1)", empty, Check.UNKNOWN, x -> x.setOff(0, 0, 1));
        error("addCleaning(0, 0, 0)", empty, Check.UNKNOWN, x -> x.addCleaning(0, 0, 0));
        error("dropCleaning(0)", empty, Check.UNKNOWN, x -> x.dropCleaning(0));
        error("bestDay(0, 0, 1)", empty, Check.UNKNOWN, x -> x.bestDay(0, 0, 1));
        error("bestPair(0, 0, 2)", empty, Check.UNKNOWN, x -> x.bestPair(0, 0, 2));
        error("lost(0)", empty, Check.UNKNOWN, x -> x.lost(0));
    }

    private static void ofAUsualPlanner() {
        Check.says("A call that returns an error or NONE changes nothing");
        Maker usual = UnchangedTest::usual;
        error("addMirror(101, 0)", usual, Check.BAD_VALUE, x -> x.addMirror(101, 0));
        error("addMirror(0, -1)", usual, Check.BAD_VALUE, x -> x.addMirror(0, -1));
        error("setDust(9, 8, 1)", usual, Check.BAD_VALUE, x -> x.setDust(9, 8, 1));
        error("setDust(0, 9, 501)", usual, Check.BAD_VALUE, x -> x.setDust(0, 9, 501));
        error("setMagnitude(-1, 9, 0)", usual, Check.BAD_VALUE, x -> x.setMagnitude(-1, 9, 0));
        error("setMagnitude(0, 9, 31)", usual, Check.BAD_VALUE, x -> x.setMagnitude(0, 9, 31));
        error("setHours(2, 0, 0)", usual, Check.UNKNOWN, x -> x.setHours(2, 0, 0));
        error("setHours(0, 7, 0)", usual, Check.BAD_VALUE, x -> x.setHours(0, 7, 0));
        error("setHours(0, 0, 13)", usual, Check.BAD_VALUE, x -> x.setHours(0, 0, 13));
        error("setOff(2, 0, 0)", usual, Check.UNKNOWN, x -> x.setOff(2, 0, 0));
        error("setOff(0, 1, 0)", usual, Check.BAD_VALUE, x -> x.setOff(0, 1, 0));
        error("addCleaning(2, 0, 0)", usual, Check.UNKNOWN, x -> x.addCleaning(2, 0, 0));
        error("addCleaning(0, 3, 0)", usual, Check.BAD_VALUE, x -> x.addCleaning(0, 3, 0));
        error("addCleaning(0, 0, 60)", usual, Check.BAD_VALUE, x -> x.addCleaning(0, 0, 60));
        error("dropCleaning(9)", usual, Check.UNKNOWN, x -> x.dropCleaning(9));
        error("dropCleaning(MIN)", usual, Check.UNKNOWN, x -> x.dropCleaning(MIN));
        error("bestDay(0, 3, 1)", usual, Check.BAD_VALUE, x -> x.bestDay(0, 3, 1));
        error("bestDay(0, 2, 60)", usual, Check.NONE, x -> x.bestDay(0, 2, 60));
        error("bestPair(0, 0, 61)", usual, Check.BAD_VALUE, x -> x.bestPair(0, 0, 61));
        error("bestPair(0, 2, 60)", usual, Check.NONE, x -> x.bestPair(0, 2, 60));
        error("pass(0)", usual, Check.BAD_VALUE, x -> x.pass(0));
        error("pass(61)", usual, Check.BAD_VALUE, x -> x.pass(61));
        error("restore(1)", usual, Check.NONE, x -> x.restore(1));
        error("restore(-1)", usual, Check.UNKNOWN, x -> x.restore(-1));
        error("keep(MAX)", usual, Check.UNKNOWN, x -> x.keep(MAX));
        error("failure(2)", usual, Check.BAD_VALUE, x -> x.failure(2));
        error("mirror(0, 6)", usual, Check.BAD_VALUE, x -> x.mirror(0, 6));
        error("lossAhead(61, 0)", usual, Check.BAD_VALUE, x -> x.lossAhead(61, 0));
        error("count(10)", usual, Check.BAD_VALUE, x -> x.count(10));
        Maker faulty = () -> {
            MirrorPlanner x = usual();
            Check.type(x, ";nights 1;");
            return x;
        };
        error("runOrders()", faulty, -134, x -> x.runOrders());
    }

    private static void refusals() {
        Check.says("(but for the reason, if it is REFUSED)");
        Maker usual = UnchangedTest::usual;
        error("addCleaning(0, 2, 0)", usual, Check.REFUSED, x -> x.addCleaning(0, 2, 0));
        Maker narrow = () -> {
            MirrorPlanner x = usual();
            x.setHours(0, 3, 1);
            x.setHours(1, 3, 2);
            return x;
        };
        error("addCleaning(0, 1, 0)", narrow, Check.REFUSED, x -> x.addCleaning(0, 1, 0));
        error("addCleaning(1, 1, 5)", usual, Check.REFUSED, x -> x.addCleaning(1, 1, 5));
        Maker full = UnchangedTest::full;
        error("a thirteenth cleaning", full, Check.REFUSED, x -> x.addCleaning(0, 0, 9));
        error("an eleventh rate", full, Check.REFUSED, x -> x.setDust(0, 9999, 1));
        error("an eleventh magnitude", full, Check.REFUSED, x -> x.setMagnitude(0, 9999, 1));
    }

    private static void ofAFullPlanner() {
        Check.says("There is no more room.");
        Maker full = UnchangedTest::full;
        error("a fifth mirror", full, Check.FULL, x -> x.addMirror(1, 1));
        error("a sixth person", full, Check.FULL, x -> x.addPerson());
        error("a 91st character", full, Check.FULL, x -> x.type('1'));
        error("a 91st character", full, Check.FULL, x -> x.type(';'));
        error("bestDay() of a full plan", full, Check.NONE, x -> x.bestDay(0, 0, 60));
        error("bestPair() of a full plan", full, Check.NONE, x -> x.bestPair(0, 0, 60));
        error("planned(12, 0)", full, Check.NONE, x -> x.planned(12, 0));
        error("dropCleaning(12)", full, Check.UNKNOWN, x -> x.dropCleaning(12));
    }

    private static void answers() {
        Check.says("Each call of a method that is described as an act");
        Maker usual = UnchangedTest::usual;
        alike("bestDay()", usual, x -> x.bestDay(0, 0, 60));
        alike("bestPair()", usual, x -> x.bestPair(1, 1, 60));
        alike("lossAhead(60, 0)", usual, x -> x.lossAhead(60, 0));
        alike("lossAhead(60, 1)", usual, x -> x.lossAhead(60, 1));
        alike("mirror()", usual, x -> x.mirror(0, 5));
        alike("night()", usual, x -> x.night(9999, 1));
        alike("day()", usual, x -> x.day(9999, 2));
        alike("hours()", usual, x -> x.hours(1, 6));
        alike("planned()", usual, x -> x.planned(0, 2));
        alike("log()", usual, x -> x.log(0, 3));
    }
}
