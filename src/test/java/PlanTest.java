/** Promises 9 to 13, 21 to 23, 27 and 28: the plan, its search, nights that pass, losses. */
public final class PlanTest {
    public static void main(String[] args) {
        addCleaning();
        reasons();
        places();
        dropCleaning();
        bestDay();
        bestPair();
        bestByTrial();
        pass();
        cleaningsOfADay();
        kinds();
        dustAndLossAtMost();
        mirror();
        lossAhead();
        planned();
        log();
        Check.end();
    }

    private static void addCleaning() {
        MirrorPlanner x = new MirrorPlanner();
        Check.due("addCleaning of no mirror", x.addCleaning(0, 9, 99), Check.UNKNOWN);
        x.addMirror(1, 1);
        Check.due("addCleaning(-1, 0, 0)", x.addCleaning(-1, 0, 0), Check.UNKNOWN);
        Check.due("addCleaning(1, 0, 0)", x.addCleaning(1, 0, 0), Check.UNKNOWN);
        Check.due("addCleaning(0, -1, 0)", x.addCleaning(0, -1, 0), Check.BAD_VALUE);
        Check.due("addCleaning(0, 3, 0)", x.addCleaning(0, 3, 0), Check.BAD_VALUE);
        Check.due("addCleaning(0, 0, -1)", x.addCleaning(0, 0, -1), Check.BAD_VALUE);
        Check.due("addCleaning(0, 0, 60)", x.addCleaning(0, 0, 60), Check.BAD_VALUE);
        Check.due("errors set no reason", x.count(5), 0);
        Check.due("addCleaning(0, 0, 59)", x.addCleaning(0, 0, 59), Check.REFUSED);
        Check.due("its reason", x.count(5), 1);
        Check.due("refusals are not recorded", x.count(6), 1);
        x.addPerson();
        x.setHours(0, 59 % 7, 1);
        Check.due("addCleaning(0, 0, 59) with a person", x.addCleaning(0, 0, 59), 0);
        Check.due("the reason stays", x.count(5), 1);
        Check.due("it is recorded", x.count(6), 4);
        x.pass(7);
        Check.due("the days are from the present night", x.addCleaning(0, 0, 59), 1);
        Check.due("its day", x.planned(1, 2), 66);
    }

    private static void reasons() {
        MirrorPlanner x = Check.withCrew(3, 4);
        x.addMirror(1, 1);
        x.addMirror(1, 1);
        x.addMirror(1, 1);
        x.addMirror(1, 1);
        Check.due("coat takes all of the day", x.addCleaning(0, 2, 0), 0);
        Check.due("no hours, and the same mirror", x.addCleaning(0, 0, 0), Check.REFUSED);
        Check.due("2 counts ahead of 3", x.count(5), 2);
        x.setHours(2, 1, 0);
        Check.due("coat with two people", x.addCleaning(1, 2, 1), Check.REFUSED);
        Check.due("1 counts ahead of 2", x.count(5), 1);
        Check.due("wash with two people", x.addCleaning(1, 1, 1), 1);
        Check.due("the same mirror with hours", x.addCleaning(1, 1, 1), Check.REFUSED);
        Check.due("reason 3", x.count(5), 3);
        Check.due("another one takes the rest", x.addCleaning(2, 1, 1), 2);
        Check.due("no hours are left", x.addCleaning(3, 0, 1), Check.REFUSED);
        Check.due("reason 2", x.count(5), 2);
        for (int i = 3; i < 12; i++) {
            Check.due("snow", x.addCleaning(0, 0, i), i);
        }
        Check.due("a thirteenth cleaning of this mirror", x.addCleaning(0, 0, 3), Check.REFUSED);
        Check.due("3 counts ahead of 4", x.count(5), 3);
        Check.due("a thirteenth cleaning", x.addCleaning(1, 0, 3), Check.REFUSED);
        Check.due("reason 4", x.count(5), 4);
        Check.due("cleanings", x.count(3), 12);
        x.setHours(0, 4, 0);
        x.setHours(1, 4, 0);
        Check.due("a person alone", x.addCleaning(1, 1, 4), Check.REFUSED);
        Check.due("1 counts ahead of 4", x.count(5), 1);
    }

    private static void places() {
        MirrorPlanner x = Check.withCrew(1, 12);
        x.addMirror(1, 1);
        x.addMirror(1, 1);
        x.addMirror(1, 1);
        Check.due("day 5", x.addCleaning(0, 0, 5), 0);
        Check.due("day 2", x.addCleaning(2, 0, 2), 0);
        Check.due("day 5 behind the one there", x.addCleaning(1, 0, 5), 2);
        Check.due("day 2 behind the one there", x.addCleaning(0, 0, 2), 1);
        Check.due("day 9", x.addCleaning(0, 0, 9), 4);
        int[] mirrors = {2, 0, 0, 1, 0};
        int[] days = {2, 2, 5, 5, 9};
        for (int i = 0; i < 5; i++) {
            Check.due("planned(" + i + ", 0)", x.planned(i, 0), mirrors[i]);
            Check.due("planned(" + i + ", 2)", x.planned(i, 2), days[i]);
        }
    }

    private static void dropCleaning() {
        MirrorPlanner x = Check.withCrew(1, 12);
        x.addMirror(1, 1);
        x.addMirror(1, 1);
        Check.due("dropCleaning(0) of none", x.dropCleaning(0), Check.UNKNOWN);
        x.addCleaning(0, 0, 1);
        x.addCleaning(1, 0, 2);
        x.addCleaning(0, 0, 3);
        Check.due("dropCleaning(-1)", x.dropCleaning(-1), Check.UNKNOWN);
        Check.due("dropCleaning(3)", x.dropCleaning(3), Check.UNKNOWN);
        Check.due("dropCleaning(1)", x.dropCleaning(1), 2);
        Check.due("the one behind moves", x.planned(1, 2), 3);
        Check.due("the one ahead stays", x.planned(0, 2), 1);
        Check.due("planned(2, 0)", x.planned(2, 0), Check.NONE);
        x.undo();
        Check.due("it is an act", x.planned(1, 2), 2);
        Check.due("all three again", x.count(3), 3);
    }

    private static void bestDay() {
        MirrorPlanner x = Check.withCrew(1, 1);
        Check.due("bestDay of no mirror", x.bestDay(0, 9, 99), Check.UNKNOWN);
        x.addMirror(100, 0);
        Check.due("bestDay(-1, 0, 1)", x.bestDay(-1, 0, 1), Check.UNKNOWN);
        Check.due("bestDay(0, -1, 1)", x.bestDay(0, -1, 1), Check.BAD_VALUE);
        Check.due("bestDay(0, 3, 1)", x.bestDay(0, 3, 1), Check.BAD_VALUE);
        Check.due("bestDay(0, 0, 0)", x.bestDay(0, 0, 0), Check.BAD_VALUE);
        Check.due("bestDay(0, 0, 61)", x.bestDay(0, 0, 61), Check.BAD_VALUE);
        int recorded = x.count(6);
        Check.due("bestDay with too few people", x.bestDay(0, 1, 60), Check.NONE);
        Check.due("it sets no reason", x.count(5), 0);
        Check.due("all days are alike for no dust", x.bestDay(0, 0, 1), 0);
        // losses of two nights: day 0 gives 2 + 4, day 1 gives 2 + (20 / 2 + 20) / 10
        Check.due("bestDay(0, 0, 2)", x.bestDay(0, 0, 2), 1);
        x.addCleaning(0, 0, 1);
        Check.due("not on a day with a cleaning of it", x.bestDay(0, 0, 2), 0);
        Check.due("it is no act", x.count(6), Math.min(recorded + 1, 6));
        Check.due("the plan stays", x.count(3), 1);
        x.addMirror(0, 0);
        Check.due("no light, the least day", x.bestDay(1, 0, 30), 0);
        x.setOff(0, 0, 9);
        Check.due("not on a day off", x.bestDay(1, 0, 30), 10);
        Check.due("only days less than the nights", x.bestDay(1, 0, 10), Check.NONE);
        x.setDust(0, 9999, 0);
        x.setDust(20, 20, 500);
        x.dropCleaning(0);
        Check.due("behind the dust of night 20", x.bestDay(0, 0, 40), 21);
        Check.due("the dust is not in reach", x.bestDay(0, 0, 20), 10);
    }

    private static void bestPair() {
        MirrorPlanner x = Check.withCrew(1, 1);
        Check.due("bestPair of no mirror", x.bestPair(0, 9, 99), Check.UNKNOWN);
        x.addMirror(100, 0);
        Check.due("bestPair(1, 0, 1)", x.bestPair(1, 0, 1), Check.UNKNOWN);
        Check.due("bestPair(0, -1, 1)", x.bestPair(0, -1, 1), Check.BAD_VALUE);
        Check.due("bestPair(0, 3, 1)", x.bestPair(0, 3, 1), Check.BAD_VALUE);
        Check.due("bestPair(0, 0, 0)", x.bestPair(0, 0, 0), Check.BAD_VALUE);
        Check.due("bestPair(0, 0, 61)", x.bestPair(0, 0, 61), Check.BAD_VALUE);
        Check.due("one day is no pair", x.bestPair(0, 0, 1), Check.NONE);
        Check.due("bestPair(0, 0, 2)", x.bestPair(0, 0, 2), 1);
        Check.due("too few people", x.bestPair(0, 2, 60), Check.NONE);
        Check.due("it sets no reason", x.count(5), 0);
        x.setDust(0, 9999, 0);
        x.setDust(20, 20, 500);
        x.setDust(30, 30, 500);
        Check.due("both behind the first dust, for few nights", x.bestPair(0, 0, 35), 2122);
        Check.due("behind the dust of both nights", x.bestPair(0, 0, 45), 2131);
        Check.due("both behind all dust, for more nights", x.bestPair(0, 0, 60), 3132);
        x.setOff(0, 21, 30);
        Check.due("both behind the days off", x.bestPair(0, 0, 35), 3132);
        x.addMirror(0, 0);
        Check.due("no light, the least pair", x.bestPair(1, 0, 60), 1);
        for (int i = 0; i < 10; i++) {
            x.addCleaning(1, 0, i);
        }
        Check.due("room for two", x.bestPair(1, 0, 60), 1011);
        x.addCleaning(1, 0, 10);
        Check.due("room for one alone", x.bestPair(1, 0, 60), Check.NONE);
        Check.due("a single one", x.bestDay(1, 0, 60), 11);
        x.addCleaning(1, 0, 11);
        Check.due("room for none", x.bestDay(1, 0, 60), Check.NONE);
        Check.due("the reason stays 0", x.count(5), 0);
    }

    /** A new object for each kind, as 512 calls are the most that an object is made for. */
    private static void bestByTrial() {
        for (int kind = 0; kind < 3; kind++) {
            MirrorPlanner x = Check.withCrew(3, 5);
            x.addMirror(90, 4);
            x.addMirror(60, 9);
            x.addCleaning(0, 1, 8);
            x.addCleaning(0, 2, 5);
            x.addCleaning(1, 1, 4);
            x.setDust(6, 7, 400);
            x.setMagnitude(9, 10, 30);
            x.setOff(2, 10, 10);
            x.setOff(1, 4, 4);
            x.keep(0);
            bestByTrial(x, kind, 12);
        }
    }

    /** Tries each day and each pair by adding the cleanings and asking for the loss ahead. */
    private static void bestByTrial(MirrorPlanner x, int kind, int nights) {
        int best = Check.NONE;
        int bestPair = Check.NONE;
        long least = Long.MAX_VALUE;
        long leastPair = Long.MAX_VALUE;
        for (int i = 0; i < nights; i++) {
            x.restore(0);
            if (x.addCleaning(0, kind, i) < 0) {
                continue;
            }
            x.keep(1);
            long loss = x.lossAhead(nights, 0);
            if (loss < least) {
                least = loss;
                best = i;
            }
            for (int j = i + 1; j < nights; j++) {
                x.restore(1);
                long lossOfTwo = x.addCleaning(0, kind, j) < 0 ? leastPair : x.lossAhead(nights, 0);
                if (lossOfTwo < leastPair) {
                    leastPair = lossOfTwo;
                    bestPair = 100 * i + j;
                }
            }
        }
        x.restore(0);
        Check.due("bestDay(0, " + kind + ", " + nights + ")", x.bestDay(0, kind, nights), best);
        Check.due("bestPair(0, " + kind + ", " + nights + ")", x.bestPair(0, kind, nights), bestPair);
    }

    private static void pass() {
        MirrorPlanner x = new MirrorPlanner();
        Check.due("pass(0)", x.pass(0), Check.BAD_VALUE);
        Check.due("pass(-1)", x.pass(-1), Check.BAD_VALUE);
        Check.due("pass(61)", x.pass(61), Check.BAD_VALUE);
        Check.due("errors are not recorded", x.count(6), 0);
        x.addMirror(50, 3);
        // dust 20, age 1: 2 + 3 = 5, and 50 * 5 * 325 / 1000 = 81
        Check.due("pass(1)", x.pass(1), 81);
        Check.due("dust", x.mirror(0, 2), 20);
        Check.due("age", x.mirror(0, 3), 1);
        Check.due("the present night", x.count(0), 1);
        x.setDust(1, 1, 39);
        x.setMagnitude(1, 1, 0);
        // dust 59, age 2: 5 + 6 = 11, and 50 * 11 * 100 / 1000 = 55
        Check.due("pass(1) with periods", x.pass(1), 55);
        Check.due("lost(0)", x.lost(0), 136);
        x.addMirror(1, 0);
        // 79 and 3: 7 + 9 = 16, 260; 20: 2, 650 / 1000 is 0
        Check.due("pass(1) with two", x.pass(1), 260);
        Check.due("lost(1)", x.lost(1), 0);
        Check.due("pass(60)", x.pass(60) >= 0 ? 1 : 0, 1);
        Check.due("the present night", x.count(0), 63);
        x.undo();
        Check.due("pass() is one act", x.count(0), 3);
        Check.due("losses behind undo", x.lost(0), 396);
    }

    private static void cleaningsOfADay() {
        MirrorPlanner x = Check.withCrew(3, 12);
        for (int i = 0; i < 4; i++) {
            x.addMirror(100, 0);
        }
        x.addCleaning(0, 2, 1);
        x.addCleaning(1, 1, 1);
        x.addCleaning(2, 0, 1);
        x.addCleaning(3, 0, 2);
        x.setHours(0, 1, 3);
        x.setHours(1, 1, 2);
        x.setHours(2, 1, 0);
        // day 1 has two people and five hours: no coat, but the wash, then the snow
        Check.due("kept for later", x.keep(0), 0);
        x.pass(2);
        Check.due("done", x.count(7), 2);
        Check.due("missed", x.count(8), 1);
        Check.due("hours", x.count(9), 5);
        Check.due("left in the plan", x.count(3), 1);
        Check.due("the latest one", x.log(0, 0), 2);
        Check.due("the latest one was done", x.log(0, 3), 1);
        Check.due("the coat was missed", x.log(2, 3), 0);
        Check.due("dust of the coat's mirror", x.mirror(0, 2), 40);
        Check.due("dust of the washed mirror", x.mirror(1, 2), 21);
        Check.due("cleanings of the washed mirror", x.mirror(1, 4), 1);
        Check.due("cleanings of the coat's mirror", x.mirror(0, 4), 0);
        x.restore(0);
        x.setHours(0, 1, 2);
        // four hours: the wash takes all, the snow is missed
        // night 0: 65 four times; night 1: 130, but 65 for the washed mirror
        Check.due("what will be missed counts ahead", x.lossAhead(2, 0), 260 + 455);
        Check.due("and when it passes", x.pass(2), 260 + 455);
        Check.due("done with four hours", x.count(7), 1);
        Check.due("missed with four hours", x.count(8), 2);
        Check.due("hours of the one done", x.count(9), 4);
        x.restore(0);
        x.setHours(0, 1, 1);
        // three hours: the wash is missed and takes none of them
        x.pass(2);
        Check.due("done with three hours", x.count(7), 1);
        Check.due("the snow was done", x.log(0, 3), 1);
        Check.due("the wash was missed", x.log(1, 3), 0);
    }

    private static void kinds() {
        MirrorPlanner x = Check.withCrew(3, 12);
        for (int i = 0; i < 3; i++) {
            x.addMirror(10, 2);
        }
        x.setDust(0, 9999, 0);
        x.setDust(0, 0, 439);
        x.addCleaning(0, 0, 3);
        x.addCleaning(1, 1, 3);
        x.addCleaning(2, 2, 3);
        x.pass(4);
        Check.due("snow leaves the half", x.mirror(0, 2), 219);
        Check.due("wash leaves a twentieth", x.mirror(1, 2), 21);
        Check.due("coat leaves nothing", x.mirror(2, 2), 0);
        Check.due("age behind snow", x.mirror(0, 3), 4);
        Check.due("age behind wash", x.mirror(1, 3), 4);
        Check.due("age behind coat", x.mirror(2, 3), 1);
        Check.due("hours of all", x.count(9), 17);
    }

    private static void dustAndLossAtMost() {
        MirrorPlanner x = new MirrorPlanner();
        x.addMirror(100, 20);
        x.setDust(0, 9999, 500);
        x.setMagnitude(0, 9999, 30);
        x.pass(60);
        x.pass(60);
        x.pass(60);
        Check.due("dust of 180 nights", x.mirror(0, 2), 90000);
        Check.due("loss at most", x.mirror(0, 5), 10000);
        Check.due("a night of most", x.pass(1), 1000000);
        x.pass(60);
        Check.due("dust at most", x.mirror(0, 2), 100000);
        Check.due("age goes on", x.mirror(0, 3), 241);
        for (int i = 0; i < 60; i++) {
            x.pass(60);
        }
        Check.due("a loss above an int", x.lost(0) > Integer.MAX_VALUE ? 1 : 0, 1);
        MirrorPlanner y = new MirrorPlanner();
        y.addMirror(100, 0);
        y.setDust(0, 9999, 500);
        for (int i = 0; i < 200; i++) {
            y.pass(60);
        }
        Check.due("nights above 9999 have magnitude 15", y.lossAhead(1, 0), 325000);
    }

    private static void mirror() {
        MirrorPlanner x = new MirrorPlanner();
        Check.due("mirror(0, 9)", x.mirror(0, 9), Check.UNKNOWN);
        x.addMirror(12, 13);
        x.pass(2);
        int[] properties = {12, 13, 40, 2, 0, 30};
        for (int what = 0; what < 6; what++) {
            Check.due("mirror(0, " + what + ")", x.mirror(0, what), properties[what]);
        }
        Check.due("mirror(0, -1)", x.mirror(0, -1), Check.BAD_VALUE);
        Check.due("mirror(0, 6)", x.mirror(0, 6), Check.BAD_VALUE);
        Check.due("mirror(1, 0)", x.mirror(1, 0), Check.UNKNOWN);
        Check.due("mirror(-1, 0)", x.mirror(-1, 0), Check.UNKNOWN);
        Check.due("lost(-1)", x.lost(-1), Check.UNKNOWN);
        Check.due("lost(1)", x.lost(1), Check.UNKNOWN);
        // 12 * 15 * 325 / 1000 = 58, 12 * 30 * 325 / 1000 = 117
        Check.due("lost(0)", x.lost(0), 175);
    }

    private static void lossAhead() {
        MirrorPlanner x = Check.withCrew(2, 4);
        x.addMirror(50, 3);
        x.addMirror(80, 0);
        x.addCleaning(0, 1, 2);
        x.addCleaning(1, 0, 3);
        Check.due("lossAhead(0, 0)", x.lossAhead(0, 0), Check.BAD_VALUE);
        Check.due("lossAhead(61, 0)", x.lossAhead(61, 0), Check.BAD_VALUE);
        Check.due("lossAhead(1, -1)", x.lossAhead(1, -1), Check.BAD_VALUE);
        Check.due("lossAhead(1, 2)", x.lossAhead(1, 2), Check.BAD_VALUE);
        // night 0: 81 + 52; night 1: 50 * 10 * 325 / 1000 + 80 * 4 * 325 / 1000
        Check.due("lossAhead(2, 0)", x.lossAhead(2, 0), 81 + 52 + 162 + 104);
        // night 2: 40 / 20 + 20 gives 2 + 9 = 11, without plan 6 + 9 = 15
        Check.due("lossAhead(3, 0)", x.lossAhead(3, 0), 399 + 178 + 156);
        Check.due("lossAhead(3, 1)", x.lossAhead(3, 1), 399 + 243 + 156);
        x.setOff(0, 2, 2);
        Check.due("the wash will be missed", x.lossAhead(3, 0), x.lossAhead(3, 1));
        long ahead = x.lossAhead(60, 0);
        Check.due("it changes nothing", x.count(0), 0);
        Check.due("the plan stays", x.count(3), 2);
        Check.due("what is lost then", x.pass(60), ahead);
    }

    private static void planned() {
        MirrorPlanner x = Check.withCrew(3, 12);
        x.addMirror(1, 1);
        x.addMirror(1, 1);
        x.addCleaning(1, 2, 7);
        Check.due("planned(0, 0)", x.planned(0, 0), 1);
        Check.due("planned(0, 1)", x.planned(0, 1), 2);
        Check.due("planned(0, 2)", x.planned(0, 2), 7);
        Check.due("planned(-1, 0)", x.planned(-1, 0), Check.BAD_VALUE);
        Check.due("planned(0, -1)", x.planned(0, -1), Check.BAD_VALUE);
        Check.due("planned(0, 3)", x.planned(0, 3), Check.BAD_VALUE);
        Check.due("planned(1, 3)", x.planned(1, 3), Check.BAD_VALUE);
        Check.due("planned(1, 0)", x.planned(1, 0), Check.NONE);
        Check.due("planned(12, 2)", x.planned(12, 2), Check.NONE);
        Check.due("planned(max, 2)", x.planned(Integer.MAX_VALUE, 2), Check.NONE);
    }

    private static void log() {
        MirrorPlanner x = Check.withCrew(1, 12);
        x.addMirror(1, 1);
        x.addMirror(1, 1);
        for (int i = 0; i < 7; i++) {
            x.addCleaning(0, 0, i);
        }
        Check.due("log(0, 0) of none", x.log(0, 0), Check.NONE);
        x.setOff(0, 6, 6);
        x.pass(7);
        for (int i = 0; i < 7; i++) {
            Check.due("log(i, 2)", x.log(i, 2), 6 - i);
            Check.due("log(i, 3)", x.log(i, 3), i == 0 ? 0 : 1);
        }
        Check.due("log(7, 0)", x.log(7, 0), Check.NONE);
        for (int i = 0; i < 7; i++) {
            x.addCleaning(1, 0, i);
        }
        x.pass(60);
        Check.due("the log has 12", x.count(4), 12);
        Check.due("all were looked at", x.count(7) + x.count(8), 14);
        Check.due("log(0, 2)", x.log(0, 2), 13);
        Check.due("log(6, 0)", x.log(6, 0), 1);
        Check.due("log(7, 0)", x.log(7, 0), 0);
        Check.due("log(7, 3)", x.log(7, 3), 0);
        Check.due("log(11, 2)", x.log(11, 2), 2);
        Check.due("log(11, 1)", x.log(11, 1), 0);
        Check.due("log(12, 0)", x.log(12, 0), Check.NONE);
        Check.due("log(-1, 0)", x.log(-1, 0), Check.BAD_VALUE);
        Check.due("log(0, -1)", x.log(0, -1), Check.BAD_VALUE);
        Check.due("log(0, 4)", x.log(0, 4), Check.BAD_VALUE);
        Check.due("log(12, 4)", x.log(12, 4), Check.BAD_VALUE);
        x.undo();
        Check.due("the log is part of the state", x.count(4), 7);
    }
}
