/** Sentence by sentence: WHEN NIGHTS PASS, and promises 13 and 28. */
public final class PassEdgesTest {
    private static final int MIN = Integer.MIN_VALUE;
    private static final int MAX = Integer.MAX_VALUE;

    public static void main(String[] args) {
        oneToSixty();
        sumOfNightsAndMirrors();
        cleaningsAheadOfTheNight();
        inTheirOrder();
        removed();
        onItsDayAlone();
        enoughPeople();
        hoursThatAreLeft();
        missedTakesNone();
        noOtherIsAffected();
        increasesByOne();
        latestTwelve();
        latestIsZero();
        logEdges();
        above9999();
        all512Calls();
        Check.end();
    }

    private static void oneToSixty() {
        Check.says("nights: 1 to 60");
        MirrorPlanner x = Check.withCrewAndMirrors(1, 1, 1);
        int[] bad = {0, -1, 61, MIN, MAX};
        for (int nights : bad) {
            Check.due("pass(" + nights + ")", x.pass(nights), Check.BAD_VALUE);
        }
        Check.due("no night has passed", x.count(0), 0);
        Check.due("nothing is lost", x.lost(0), 0);
        Check.due("pass(1)", x.pass(1), 65);
        Check.due("count(0)", x.count(0), 1);
        x.setDust(0, 9999, 0);
        Check.due("pass(60)", x.pass(60), 60 * 65);
        Check.due("count(0)", x.count(0), 61);
        Check.due("mirror(0, 3)", x.mirror(0, 3), 61);
    }

    private static void sumOfNightsAndMirrors() {
        Check.says("Returns what is lost in them; BAD_VALUE.");
        MirrorPlanner x = new MirrorPlanner();
        Check.due("without mirrors", x.pass(60), 0);
        x.addMirror(100, 0);
        x.addMirror(10, 0);
        x.setMagnitude(0, 9999, 30);
        // losses 2, 4, 6 with 100 and 10
        Check.due("three nights", x.pass(3), 1200 + 120);
        Check.due("lost(0)", x.lost(0), 1200);
        Check.due("lost(1)", x.lost(1), 120);
        MirrorPlanner y = new MirrorPlanner();
        for (int i = 0; i < 4; i++) {
            y.addMirror(100, 20);
        }
        y.setMagnitude(0, 9999, 30);
        Check.passTo(y, 500);
        Check.due("the most that is lost at once", y.pass(60), 240000000L);
    }

    private static void cleaningsAheadOfTheNight() {
        Check.says("When a night passes, first the cleanings of the plan on its day are looked at in their order");
        MirrorPlanner x = Check.withCrewAndMirrors(3, 12, 2);
        x.setDust(0, 9999, 40);
        x.pass(1);
        x.addCleaning(0, 0, 0);
        x.addCleaning(1, 2, 0);
        // 40 / 2 + 40 and 0 + 40, with 325 / 10 for each loss
        Check.due("dust of 60 and 40", x.pass(1), 195 + 130);
        Check.due("snow ahead of the dust", x.mirror(0, 2), 60);
        Check.due("coat ahead of the dust", x.mirror(1, 2), 40);
        Check.due("coat ahead of the age", x.mirror(1, 3), 1);
    }

    private static void inTheirOrder() {
        Check.says("are looked at in their order");
        MirrorPlanner x = Check.withCrewAndMirrors(2, 6, 3);
        x.keep(0);
        x.addCleaning(0, 1, 0);
        x.addCleaning(1, 0, 0);
        x.setHours(0, 0, 2);
        x.setHours(1, 0, 2);
        x.pass(1);
        Check.due("the wash was done", x.mirror(0, 4), 1);
        Check.due("the snow behind it was missed", x.mirror(1, 4), 0);
        Check.due("the latest in the log", x.log(0, 1), 0);
        Check.due("it was missed", x.log(0, 3), 0);
        x.restore(0);
        x.addCleaning(1, 0, 0);
        x.addCleaning(0, 1, 0);
        x.setHours(0, 0, 2);
        x.setHours(1, 0, 2);
        x.pass(1);
        Check.due("the snow was done", x.mirror(1, 4), 1);
        Check.due("the wash behind it was missed", x.mirror(0, 4), 0);
        Check.due("the latest in the log", x.log(0, 1), 1);
        Check.due("it was missed", x.log(0, 3), 0);
    }

    private static void removed() {
        Check.says("and removed from the plan");
        MirrorPlanner x = Check.withCrewAndMirrors(1, 2, 3);
        x.addCleaning(0, 0, 0);
        x.addCleaning(1, 0, 0);
        x.addCleaning(2, 0, 1);
        x.setHours(0, 0, 1);
        x.pass(1);
        Check.due("both are removed", x.count(3), 1);
        Check.due("the next one is the first", x.planned(0, 0), 2);
        Check.due("its day", x.planned(0, 2), 1);
        Check.due("done", x.count(7), 1);
        Check.due("missed", x.count(8), 1);
        x.pass(60);
        Check.due("none is looked at twice", x.count(4), 3);
        Check.due("the plan is empty", x.planned(0, 0), Check.NONE);
    }

    private static void onItsDayAlone() {
        Check.says("the cleanings of the plan on its day");
        MirrorPlanner x = Check.withCrewAndMirrors(1, 2, 1);
        x.addCleaning(0, 0, 2);
        x.addCleaning(0, 0, 3);
        x.addCleaning(0, 0, 59);
        x.pass(2);
        Check.due("none of two nights", x.count(4), 0);
        x.pass(1);
        Check.due("the third night", x.count(4), 1);
        Check.due("its day", x.log(0, 2), 2);
        x.pass(1);
        Check.due("the fourth night", x.count(4), 2);
        x.pass(55);
        Check.due("not that of day 59", x.count(4), 2);
        x.pass(1);
        Check.due("day 59", x.log(0, 2), 59);
    }

    /** Plans a cleaning with three people of 12 hours, changes the shifts, and lets its day pass. */
    private static void doneWith(int kind, int first, int second, int third, int done) {
        MirrorPlanner x = Check.withCrewAndMirrors(3, 12, 1);
        x.addCleaning(0, kind, 0);
        x.setHours(0, 0, first);
        x.setHours(1, 0, second);
        x.setHours(2, 0, third);
        x.pass(1);
        int[] hours = {1, 4, 12};
        String call = "kind " + kind + " with " + first + ", " + second + ", " + third + " hours: ";
        Check.due(call + "log(0, 3)", x.log(0, 3), done);
        Check.due(call + "done", x.count(7), done);
        Check.due(call + "missed", x.count(8), 1 - done);
        Check.due(call + "hours", x.count(9), hours[kind] * done);
        Check.due(call + "mirror(0, 4)", x.mirror(0, 4), done);
    }

    private static void enoughPeople() {
        Check.says("each is done if enough people are on shift");
        doneWith(0, 0, 0, 0, 0);
        doneWith(0, 0, 12, 0, 1);
        doneWith(1, 0, 0, 12, 0);
        doneWith(1, 12, 0, 12, 1);
        doneWith(2, 12, 12, 0, 0);
        doneWith(2, 12, 12, 1, 1);
        MirrorPlanner x = Check.withCrewAndMirrors(2, 12, 1);
        x.addCleaning(0, 1, 0);
        x.setOff(1, 0, 0);
        x.pass(1);
        Check.due("one of two is off", x.log(0, 3), 0);
    }

    private static void hoursThatAreLeft() {
        Check.says("and the hours that are left of the day suffice");
        doneWith(0, 1, 0, 0, 1);
        doneWith(1, 1, 2, 0, 0);
        doneWith(1, 1, 3, 0, 1);
        doneWith(1, 1, 1, 1, 0);
        doneWith(1, 2, 1, 1, 1);
        doneWith(2, 4, 4, 3, 0);
        doneWith(2, 4, 4, 4, 1);
        doneWith(2, 1, 1, 10, 1);
        doneWith(2, 1, 1, 9, 0);
    }

    private static void missedTakesNone() {
        Check.says("otherwise it is missed, and takes no hours");
        MirrorPlanner x = Check.withCrewAndMirrors(3, 8, 4);
        x.addCleaning(0, 2, 0);
        x.addCleaning(1, 1, 0);
        x.addCleaning(2, 1, 0);
        x.addCleaning(3, 0, 0);
        x.setHours(0, 0, 2);
        x.setHours(1, 0, 2);
        x.setHours(2, 0, 1);
        // 5 hours: no coat, a wash, no second wash, but the snow
        x.pass(1);
        int[] done = {0, 1, 0, 1};
        for (int i = 0; i < 4; i++) {
            Check.due("cleanings of mirror " + i, x.mirror(i, 4), done[i]);
            Check.due("log(" + (3 - i) + ", 3)", x.log(3 - i, 3), done[i]);
        }
        Check.due("hours", x.count(9), 5);
        Check.due("done", x.count(7), 2);
        Check.due("missed", x.count(8), 2);
    }

    private static void noOtherIsAffected() {
        Check.says("(these are the hours of the day less those that cleanings done on this day took)");
        MirrorPlanner x = Check.withCrewAndMirrors(2, 2, 2);
        x.addCleaning(0, 1, 0);
        x.addCleaning(0, 1, 1);
        x.addCleaning(1, 1, 2);
        x.pass(3);
        Check.due("each day has hours of its own", x.count(7), 3);
        Check.due("hours", x.count(9), 12);
        Check.due("mirror 0", x.mirror(0, 4), 2);
        Check.due("mirror 1", x.mirror(1, 4), 1);
        MirrorPlanner y = Check.withCrewAndMirrors(2, 6, 4);
        for (int i = 0; i < 4; i++) {
            y.addCleaning(i, i == 3 ? 0 : 1, 0);
        }
        Check.due("of 12 hours three take all", y.count(3), 3);
        y.addCleaning(3, 0, 1);
        y.pass(1);
        Check.due("all three are done", y.count(7), 3);
        Check.due("hours", y.count(9), 12);
    }

    private static void increasesByOne() {
        Check.says("and the present night increases by 1");
        MirrorPlanner x = new MirrorPlanner();
        for (int i = 1; i <= 5; i++) {
            x.pass(1);
            Check.due("count(0)", x.count(0), i);
        }
        x.pass(60);
        Check.due("count(0)", x.count(0), 65);
    }

    private static void latestTwelve() {
        Check.says("The log keeps the latest 12 cleanings that were looked at");
        MirrorPlanner x = Check.withCrewAndMirrors(1, 12, 2);
        for (int i = 0; i < 12; i++) {
            x.addCleaning(0, 0, i);
        }
        x.pass(11);
        Check.due("eleven", x.count(4), 11);
        Check.due("log(11, 2)", x.log(11, 2), Check.NONE);
        x.pass(1);
        Check.due("twelve", x.count(4), 12);
        Check.due("the oldest of twelve", x.log(11, 2), 0);
        x.addCleaning(1, 0, 0);
        x.setOff(0, 12, 12);
        x.pass(1);
        Check.due("of thirteen", x.count(4), 12);
        Check.due("the oldest is dropped", x.log(11, 2), 1);
        Check.due("the missed one is kept", x.log(0, 2), 12);
        Check.due("log(12, 2)", x.log(12, 2), Check.NONE);
        Check.due("all that were done", x.count(7), 12);
        Check.due("the missed one", x.count(8), 1);
    }

    private static void latestIsZero() {
        Check.says("numbered from 0 for the latest one");
        MirrorPlanner x = Check.withCrewAndMirrors(3, 12, 3);
        x.addCleaning(2, 2, 0);
        x.addCleaning(0, 1, 0);
        x.addCleaning(1, 0, 1);
        x.setOff(0, 0, 0);
        x.pass(2);
        int[][] rows = {{1, 0, 1, 1}, {0, 1, 0, 1}, {2, 2, 0, 0}};
        for (int entry = 0; entry < 3; entry++) {
            for (int what = 0; what < 4; what++) {
                Check.due("log(" + entry + ", " + what + ")", x.log(entry, what), rows[entry][what]);
            }
        }
    }

    private static void logEdges() {
        Check.says("BAD_VALUE if entry is negative or what is out of range; NONE if there are not so many.");
        MirrorPlanner x = Check.withCrewAndMirrors(1, 12, 1);
        Check.due("log(0, 0) of none", x.log(0, 0), Check.NONE);
        Check.due("log(0, 4) of none", x.log(0, 4), Check.BAD_VALUE);
        x.addCleaning(0, 0, 0);
        Check.due("one that is planned is not in it", x.log(0, 0), Check.NONE);
        x.pass(1);
        int[] badWhat = {-1, 4, MIN, MAX};
        for (int what : badWhat) {
            Check.due("log(0, " + what + ")", x.log(0, what), Check.BAD_VALUE);
            Check.due("log(1, " + what + ")", x.log(1, what), Check.BAD_VALUE);
            Check.due("log(MAX, " + what + ")", x.log(MAX, what), Check.BAD_VALUE);
        }
        for (int what = 0; what < 4; what++) {
            Check.due("log(-1, " + what + ")", x.log(-1, what), Check.BAD_VALUE);
            Check.due("log(MIN, " + what + ")", x.log(MIN, what), Check.BAD_VALUE);
            Check.due("log(1, " + what + ")", x.log(1, what), Check.NONE);
            Check.due("log(12, " + what + ")", x.log(12, what), Check.NONE);
            Check.due("log(MAX, " + what + ")", x.log(MAX, what), Check.NONE);
        }
        Check.due("log(0, 3)", x.log(0, 3), 1);
    }

    private static void above9999() {
        Check.says("The present night is the first one that has not passed");
        MirrorPlanner x = Check.withCrewAndMirrors(1, 0, 1);
        // 10005 % 7 is 2
        x.setHours(0, 2, 1);
        Check.passTo(x, 10000);
        Check.due("day 10005", x.addCleaning(0, 0, 5), 0);
        Check.due("planned(0, 2)", x.planned(0, 2), 10005);
        x.pass(6);
        Check.due("log(0, 2)", x.log(0, 2), 10005);
        Check.due("it was done", x.log(0, 3), 1);
        Check.due("count(0)", x.count(0), 10006);
        Check.due("age", x.mirror(0, 3), 10006);
    }

    private static void all512Calls() {
        Check.says("An object is used for at most 512 calls after it has been made");
        MirrorPlanner x = new MirrorPlanner();
        x.addMirror(100, 20);
        Check.type(x, "nights 60;".repeat(8) + "nights 060");
        for (int i = 0; i < 419; i++) {
            x.runOrders();
        }
        Check.due("the 511th call, an age of 419 * 540", x.mirror(0, 3), 226260);
        // night k loses 715 * k up to 454, then 325000
        Check.due("the 512th call", x.lost(0), 715L * 454 * 455 / 2 + 325000L * (226260 - 454));
    }
}
