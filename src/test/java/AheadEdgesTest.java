/** Sentence by sentence: LOSS AHEAD, and promises 11, 12 and 23. */
public final class AheadEdgesTest {
    private static final int MIN = Integer.MIN_VALUE;
    private static final int MAX = Integer.MAX_VALUE;

    public static void main(String[] args) {
        lossEdges();
        nextNights();
        planAsItIs();
        emptyPlan();
        missedAhead();
        lossFromThePresent();
        mostAhead();
        daysInReach();
        daysThatAreOpen();
        noRoomForOne();
        leastDay();
        withThePlan();
        nightsOfTheLoss();
        faintNights();
        daysAheadOfThePresent();
        noReason();
        errorsOfDay();
        twoDays();
        pairsInReach();
        openPairs();
        noRoomForTwo();
        leastPair();
        pairWithThePlan();
        errorsOfPair();
        Check.end();
    }

    private static void lossEdges() {
        Check.says("nights: 1 to 60; what: 0 for the loss ahead, 1 for the loss without plan");
        MirrorPlanner x = Check.withCrewAndMirrors(1, 1, 1);
        int[] bad = {0, -1, 61, MIN, MAX};
        for (int nights : bad) {
            Check.due("lossAhead(" + nights + ", 0)", x.lossAhead(nights, 0), Check.BAD_VALUE);
            Check.due("lossAhead(" + nights + ", 1)", x.lossAhead(nights, 1), Check.BAD_VALUE);
            Check.due("lossAhead(" + nights + ", 2)", x.lossAhead(nights, 2), Check.BAD_VALUE);
        }
        int[] badWhat = {-1, 2, MIN, MAX};
        for (int what : badWhat) {
            Check.due("lossAhead(1, " + what + ")", x.lossAhead(1, what), Check.BAD_VALUE);
            Check.due("lossAhead(60, " + what + ")", x.lossAhead(60, what), Check.BAD_VALUE);
        }
        // night i loses 65 * (i + 1)
        Check.due("lossAhead(1, 0)", x.lossAhead(1, 0), 65);
        Check.due("lossAhead(1, 1)", x.lossAhead(1, 1), 65);
        Check.due("lossAhead(60, 0)", x.lossAhead(60, 0), 118950);
        Check.due("lossAhead(60, 1)", x.lossAhead(60, 1), 118950);
    }

    private static void nextNights() {
        Check.says("The loss ahead for h nights (1 to 60) is what would be lost on all mirrors in the next h nights");
        MirrorPlanner x = new MirrorPlanner();
        Check.due("without mirrors", x.lossAhead(60, 0), 0);
        x.addMirror(100, 0);
        x.addMirror(100, 0);
        x.addMirror(0, 20);
        x.setDust(2, 2, 500);
        Check.due("two nights", x.lossAhead(2, 0), 2 * (65 + 130));
        // night 2: dust 540, 100 * 54 * 325 / 1000
        Check.due("three nights", x.lossAhead(3, 0), 2 * (65 + 130 + 1755));
        Check.due("it changes no dust", x.mirror(0, 2), 0);
        Check.due("and no loss", x.lost(0), 0);
        Check.due("nor the night", x.count(0), 0);
    }

    private static void planAsItIs() {
        Check.says("if they passed, with the plan as it is");
        MirrorPlanner x = Check.withCrewAndMirrors(1, 1, 1);
        x.addCleaning(0, 0, 59);
        Check.due("59 nights", x.lossAhead(59, 0), 115050);
        // night 59: dust 1180 / 2 + 20, 100 * 61 * 325 / 1000
        Check.due("60 nights", x.lossAhead(60, 0), 115050 + 1982);
        Check.due("the plan stays", x.count(3), 1);
        Check.due("nothing is looked at", x.count(4), 0);
        x.pass(59);
        Check.due("the last night alone", x.lossAhead(1, 0), 1982);
        x.dropCleaning(0);
        Check.due("with another plan", x.lossAhead(1, 0), 3900);
    }

    private static void emptyPlan() {
        Check.says("the loss without plan is the same with an empty plan");
        MirrorPlanner x = Check.withCrewAndMirrors(1, 1, 1);
        x.pass(1);
        x.addCleaning(0, 0, 0);
        // dust 20 / 2 + 20, or 40
        Check.due("lossAhead(1, 0)", x.lossAhead(1, 0), 97);
        Check.due("lossAhead(1, 1)", x.lossAhead(1, 1), 130);
        x.dropCleaning(0);
        Check.due("lossAhead(1, 0) of an empty plan", x.lossAhead(1, 0), 130);
    }

    private static void missedAhead() {
        Check.says("with the plan as it is");
        MirrorPlanner x = Check.withCrewAndMirrors(2, 3, 2);
        x.pass(10);
        x.addCleaning(0, 1, 0);
        x.addCleaning(1, 0, 0);
        // dust of 200: wash leaves 10 + 20, snow 100 + 20; 97 and 390, without them 715
        Check.due("both will be done", x.lossAhead(1, 0), 97 + 390);
        x.setHours(0, 3, 2);
        x.setHours(1, 3, 2);
        Check.due("the snow will be missed", x.lossAhead(1, 0), 97 + 715);
        x.setHours(0, 3, 1);
        Check.due("the wash will be missed", x.lossAhead(1, 0), 715 + 390);
        x.setOff(0, 10, 10);
        Check.due("one person", x.lossAhead(1, 0), 715 + 390);
        x.setOff(1, 10, 10);
        Check.due("both will be missed", x.lossAhead(1, 0), 715 + 715);
    }

    private static void lossFromThePresent() {
        Check.says("in the next h nights");
        MirrorPlanner x = Check.withCrewAndMirrors(1, 1, 1);
        x.setDust(0, 9999, 0);
        x.setDust(7, 7, 100);
        x.setMagnitude(8, 8, 30);
        x.pass(5);
        Check.due("nights 5 and 6", x.lossAhead(2, 0), 0);
        Check.due("to night 7", x.lossAhead(3, 0), 325);
        Check.due("to night 8", x.lossAhead(4, 0), 1325);
        x.pass(2);
        Check.due("night 7", x.lossAhead(1, 0), 325);
    }

    private static void mostAhead() {
        Check.says("is what would be lost on all mirrors in the next h nights, if they passed");
        MirrorPlanner x = new MirrorPlanner();
        x.addMirror(100, 0);
        x.setDust(0, 9999, 500);
        x.setDust(199, 199, 499);
        x.setMagnitude(0, 9999, 0);
        Check.passTo(x, 199);
        Check.due("dust of 99500", x.mirror(0, 2), 99500);
        Check.due("to 99999", x.lossAhead(1, 0), 99990);
        Check.due("to 100000", x.lossAhead(2, 0), 199990);
        Check.due("and no more", x.lossAhead(60, 1), 99990 + 59 * 100000);
        MirrorPlanner y = new MirrorPlanner();
        y.addMirror(100, 20);
        y.setDust(0, 9999, 0);
        y.setMagnitude(0, 9999, 0);
        Check.passTo(y, 498);
        // ages 499, 500, 501
        Check.due("a loss of 9980", y.lossAhead(1, 0), 99800);
        Check.due("a loss of 10000", y.lossAhead(2, 0), 199800);
        Check.due("and no more", y.lossAhead(3, 0), 299800);
        Check.due("as when they pass", y.pass(3), 299800);
    }

    private static void daysInReach() {
        Check.says("Only days are looked at that are less than so many nights ahead");
        MirrorPlanner x = Check.withCrewAndMirrors(1, 1, 1);
        Check.due("bestDay(0, 0, 1)", x.bestDay(0, 0, 1), 0);
        x.setOff(0, 0, 0);
        Check.due("day 0 is off, 1 night", x.bestDay(0, 0, 1), Check.NONE);
        Check.due("day 0 is off, 2 nights", x.bestDay(0, 0, 2), 1);
        x.setOff(0, 0, 9);
        Check.due("10 days off, 10 nights", x.bestDay(0, 0, 10), Check.NONE);
        Check.due("10 days off, 11 nights", x.bestDay(0, 0, 11), 10);
        x.setOff(0, 0, 58);
        Check.due("59 days off, 59 nights", x.bestDay(0, 0, 59), Check.NONE);
        Check.due("59 days off, 60 nights", x.bestDay(0, 0, 60), 59);
        x.setOff(0, 0, 59);
        Check.due("60 days off, 60 nights", x.bestDay(0, 0, 60), Check.NONE);
    }

    /** With no dust all days are alike, so the least day on which it could be added is the answer. */
    private static void daysThatAreOpen() {
        Check.says("and on which it could be added");
        MirrorPlanner x = Check.withCrewAndMirrors(2, 2, 2);
        x.setDust(0, 9999, 0);
        Check.due("all days", x.bestDay(0, 1, 30), 0);
        x.setHours(0, 0, 0);
        Check.due("too few people on day 0", x.bestDay(0, 1, 30), 1);
        x.addCleaning(1, 0, 1);
        Check.due("too few hours on day 1", x.bestDay(0, 1, 30), 2);
        Check.due("enough for snow", x.bestDay(0, 0, 30), 0);
        x.addCleaning(0, 0, 2);
        Check.due("and on day 2", x.bestDay(0, 1, 30), 3);
        x.addCleaning(0, 0, 0);
        Check.due("this mirror has one on day 0", x.bestDay(0, 0, 30), 1);
        x.addCleaning(0, 0, 1);
        Check.due("and on day 1, and on day 2", x.bestDay(0, 0, 30), 3);
        Check.due("another mirror finds an hour on day 0", x.bestDay(1, 0, 30), 0);
        Check.due("no day for a coat", x.bestDay(0, 2, 60), Check.NONE);
    }

    private static void noRoomForOne() {
        Check.says("NONE if it could be added on no such day.");
        MirrorPlanner x = Check.withCrewAndMirrors(1, 12, 2);
        x.setDust(0, 9999, 0);
        for (int i = 0; i < 11; i++) {
            x.addCleaning(0, 0, 40 + i);
        }
        Check.due("eleven in the plan", x.bestDay(1, 0, 30), 0);
        x.addCleaning(0, 0, 51);
        Check.due("twelve in the plan", x.bestDay(1, 0, 30), Check.NONE);
        Check.due("and for 60 nights", x.bestDay(1, 0, 60), Check.NONE);
        MirrorPlanner y = Check.withCrewAndMirrors(0, 0, 1);
        Check.due("without people", y.bestDay(0, 0, 60), Check.NONE);
    }

    private static void leastDay() {
        Check.says("Returns how many days ahead it is, the least number of several");
        MirrorPlanner x = Check.withCrewAndMirrors(1, 1, 1);
        x.setDust(0, 9999, 0);
        Check.due("all are alike", x.bestDay(0, 0, 60), 0);
        x.setOff(0, 0, 4);
        Check.due("all from day 5 are alike", x.bestDay(0, 0, 60), 5);
        x.setDust(10, 10, 40);
        x.setMagnitude(0, 9999, 30);
        x.setMagnitude(11, 13, 0);
        // snow behind night 10 halves the loss of 4 of the nights that follow
        Check.due("day 11", x.bestDay(0, 0, 60), 11);
        x.setOff(0, 11, 11);
        Check.due("day 12", x.bestDay(0, 0, 60), 12);
        MirrorPlanner y = Check.withCrewAndMirrors(1, 1, 0);
        y.addMirror(0, 20);
        Check.due("a mirror without weight", y.bestDay(0, 0, 60), 0);
    }

    private static void withThePlan() {
        Check.says("the loss ahead with it, if it were added to the plan, is the least one");
        MirrorPlanner x = Check.withCrewAndMirrors(3, 12, 1);
        x.setDust(0, 9999, 0);
        x.setDust(3, 3, 500);
        Check.due("a coat behind the dust", x.bestDay(0, 2, 10), 4);
        x.addCleaning(0, 2, 4);
        Check.due("the plan has it, all are alike", x.bestDay(0, 2, 10), 0);
        x.setOff(0, 4, 4);
        Check.due("that of the plan will be missed", x.bestDay(0, 2, 10), 5);
        x.addCleaning(0, 1, 6);
        Check.due("there is another one", x.bestDay(0, 2, 10), 5);
        x.dropCleaning(0);
        x.addCleaning(0, 2, 5);
        Check.due("a wash on the day ahead", x.bestDay(0, 1, 10), 4);
        Check.due("it changes no plan", x.count(3), 2);
    }

    private static void nightsOfTheLoss() {
        Check.says("1 to 60, also those of the loss ahead");
        MirrorPlanner x = Check.withCrewAndMirrors(3, 12, 1);
        x.setDust(0, 9999, 0);
        x.setDust(0, 0, 20);
        x.setDust(6, 6, 500);
        Check.due("nights that end with the dust", x.bestDay(0, 2, 7), 1);
        Check.due("nights that end behind it", x.bestDay(0, 2, 8), 7);
        MirrorPlanner y = Check.withCrewAndMirrors(1, 1, 1);
        // dust 20, 40, 60: 65 + 97 + 162 for day 1, 65 + 130 + 130 for day 2
        Check.due("three nights", y.bestDay(0, 0, 3), 1);
        Check.due("two nights", y.bestDay(0, 0, 2), 1);
    }

    private static void faintNights() {
        Check.says("the loss ahead with it, if it were added to the plan, is the least one");
        MirrorPlanner x = Check.withCrew(3, 12);
        x.addMirror(100, 20);
        x.setDust(0, 9999, 0);
        // ages 1, 1, 2 or 1, 2, 1
        Check.due("both are alike", x.bestDay(0, 2, 3), 1);
        x.setMagnitude(2, 2, 16);
        Check.due("the last night is faint", x.bestDay(0, 2, 3), 2);
        x.setMagnitude(1, 1, 17);
        Check.due("that ahead of it is fainter", x.bestDay(0, 2, 3), 1);
    }

    private static void daysAheadOfThePresent() {
        Check.says("Returns how many days ahead it is");
        MirrorPlanner x = Check.withCrewAndMirrors(3, 12, 1);
        x.setDust(0, 9999, 0);
        x.setDust(13, 13, 500);
        x.pass(10);
        Check.due("night 13 is 3 nights ahead", x.bestDay(0, 2, 10), 4);
        Check.due("the first day of two", x.bestPair(0, 2, 10), 4);
        x.setOff(0, 10, 15);
        Check.due("six days off", x.bestDay(0, 2, 10), 6);
        Check.due("six days off, two", x.bestPair(0, 2, 10), 607);
    }

    private static void noReason() {
        Check.says("This sets no reason.");
        MirrorPlanner x = Check.withCrewAndMirrors(1, 1, 2);
        Check.due("too few people", x.bestDay(0, 1, 60), Check.NONE);
        Check.due("too few people", x.bestPair(0, 1, 60), Check.NONE);
        Check.due("no reason 1", x.count(5), 0);
        x.addCleaning(0, 0, 0);
        Check.due("too few hours", x.bestDay(1, 0, 1), Check.NONE);
        Check.due("too few hours", x.bestPair(1, 0, 2), Check.NONE);
        Check.due("no reason 2", x.count(5), 0);
        x.setHours(0, 0, 9);
        Check.due("the same mirror", x.bestDay(0, 0, 1), Check.NONE);
        Check.due("the same mirror", x.bestPair(0, 0, 2), Check.NONE);
        Check.due("no reason 3", x.count(5), 0);
        for (int i = 1; i < 12; i++) {
            x.addCleaning(0, 0, i);
        }
        Check.due("a full plan", x.bestDay(0, 0, 60), Check.NONE);
        Check.due("a full plan", x.bestPair(0, 0, 60), Check.NONE);
        Check.due("no reason 4", x.count(5), 0);
        Check.refused("a refusal", x, x.addCleaning(0, 0, 1), 2);
        x.bestDay(0, 1, 60);
        x.bestPair(0, 1, 60);
        Check.due("its reason stays", x.count(5), 2);
    }

    private static void errorsOfDay() {
        Check.says("Returns how many days ahead it is, the least number of several; UNKNOWN; BAD_VALUE; "
            + "NONE if it could be added on no such day.");
        MirrorPlanner x = new MirrorPlanner();
        x.addMirror(100, 0);
        int[] unknown = {-1, 1, 4, MIN, MAX};
        for (int mirror : unknown) {
            Check.due("bestDay(" + mirror + ", 0, 1)", x.bestDay(mirror, 0, 1), Check.UNKNOWN);
            Check.due("bestDay(" + mirror + ", 3, 1)", x.bestDay(mirror, 3, 1), Check.UNKNOWN);
            Check.due("bestDay(" + mirror + ", 0, 61)", x.bestDay(mirror, 0, 61), Check.UNKNOWN);
        }
        int[] bad = {0, -1, 61, MIN, MAX};
        for (int nights : bad) {
            Check.due("bestDay(0, 0, " + nights + ")", x.bestDay(0, 0, nights), Check.BAD_VALUE);
        }
        Check.due("bestDay(0, -1, 1) with nobody", x.bestDay(0, -1, 1), Check.BAD_VALUE);
        Check.due("bestDay(0, 3, 1) with nobody", x.bestDay(0, 3, 1), Check.BAD_VALUE);
        Check.due("bestDay(0, 0, 1) with nobody", x.bestDay(0, 0, 1), Check.NONE);
        Check.due("bestDay(0, 2, 60) with nobody", x.bestDay(0, 2, 60), Check.NONE);
    }

    private static void twoDays() {
        Check.says("and the second day is later");
        MirrorPlanner x = Check.withCrewAndMirrors(1, 12, 1);
        Check.due("one night", x.bestPair(0, 0, 1), Check.NONE);
        Check.due("two nights", x.bestPair(0, 0, 2), 1);
        x.setOff(0, 1, 9);
        Check.due("one day of ten", x.bestPair(0, 0, 10), Check.NONE);
        Check.due("one day alone", x.bestDay(0, 0, 10), 0);
        Check.due("two days of eleven", x.bestPair(0, 0, 11), 10);
    }

    private static void pairsInReach() {
        Check.says("Returns 100 times the days ahead of the first one plus those of the second one");
        MirrorPlanner x = Check.withCrewAndMirrors(1, 12, 1);
        x.setOff(0, 0, 57);
        Check.due("59 nights", x.bestPair(0, 0, 59), Check.NONE);
        Check.due("60 nights", x.bestPair(0, 0, 60), 5859);
        x.setOff(0, 0, 58);
        Check.due("one day of 60", x.bestPair(0, 0, 60), Check.NONE);
        x.setOff(0, 1, 58);
        Check.due("the first and the last one", x.bestPair(0, 0, 60), 59);
    }

    private static void openPairs() {
        Check.says("Finds the two days on which two cleanings of the same mirror and kind would be best, likewise.");
        MirrorPlanner x = Check.withCrewAndMirrors(2, 2, 2);
        x.setDust(0, 9999, 0);
        Check.due("all days", x.bestPair(0, 1, 30), 1);
        x.setHours(0, 1, 0);
        Check.due("too few people on day 1", x.bestPair(0, 1, 30), 2);
        x.setHours(0, 0, 0);
        Check.due("and on day 0", x.bestPair(0, 1, 30), 203);
        x.addCleaning(1, 0, 3);
        Check.due("too few hours on day 3", x.bestPair(0, 1, 30), 204);
        x.addCleaning(0, 0, 0);
        Check.due("this mirror has one on day 0", x.bestPair(0, 0, 30), 102);
        x.addCleaning(0, 0, 2);
        Check.due("and on day 2", x.bestPair(0, 0, 30), 103);
        Check.due("the other mirror finds hours", x.bestPair(1, 0, 30), 1);
        Check.due("too few people for a coat", x.bestPair(0, 2, 60), Check.NONE);
    }

    private static void noRoomForTwo() {
        Check.says("NONE if there are no such two days.");
        MirrorPlanner x = Check.withCrewAndMirrors(1, 12, 2);
        x.setDust(0, 9999, 0);
        for (int i = 0; i < 10; i++) {
            x.addCleaning(0, 0, 40 + i);
        }
        Check.due("ten in the plan", x.bestPair(1, 0, 30), 1);
        x.addCleaning(0, 0, 50);
        Check.due("eleven in the plan", x.bestPair(1, 0, 30), Check.NONE);
        Check.due("room for one", x.bestDay(1, 0, 30), 0);
        x.addCleaning(0, 0, 51);
        Check.due("twelve in the plan", x.bestPair(1, 0, 30), Check.NONE);
        MirrorPlanner y = Check.withCrewAndMirrors(0, 0, 1);
        Check.due("without people", y.bestPair(0, 0, 60), Check.NONE);
    }

    private static void leastPair() {
        Check.says("the least number of several");
        MirrorPlanner x = Check.withCrewAndMirrors(3, 12, 1);
        x.setDust(0, 9999, 0);
        Check.due("all are alike", x.bestPair(0, 2, 60), 1);
        x.setDust(3, 3, 500);
        x.setDust(6, 6, 500);
        Check.due("behind both nights of dust", x.bestPair(0, 2, 10), 407);
        Check.due("behind the first one, with any other day", x.bestPair(0, 2, 6), 4);
        Check.due("nights that end with the dust", x.bestPair(0, 2, 4), 1);
        x.setOff(0, 0, 0);
        Check.due("day 0 is off", x.bestPair(0, 2, 6), 104);
        x.setOff(0, 0, 3);
        Check.due("all days ahead of it are off", x.bestPair(0, 2, 6), 405);
        x.setOff(0, 7, 7);
        Check.due("the day behind the second one is off", x.bestPair(0, 2, 10), 408);
    }

    private static void pairWithThePlan() {
        Check.says("two cleanings of the same mirror and kind would be best, likewise");
        MirrorPlanner x = Check.withCrewAndMirrors(3, 12, 1);
        x.setDust(0, 9999, 0);
        x.setDust(3, 3, 500);
        x.setDust(6, 6, 400);
        x.setDust(8, 8, 300);
        x.addCleaning(0, 2, 7);
        Check.due("the plan has that behind night 6", x.bestPair(0, 2, 10), 409);
        x.setOff(1, 7, 7);
        // without it: 4 and 9 lose 50 + 40 + 40 + 70 in thousands, 4 and 8 lose 50 + 40 + 40 + 30 + 30
        Check.due("it will be missed", x.bestPair(0, 2, 10), 408);
        Check.due("it changes no plan", x.count(3), 1);
    }

    private static void errorsOfPair() {
        Check.says("UNKNOWN; BAD_VALUE; NONE if there are no such two days.");
        MirrorPlanner x = new MirrorPlanner();
        x.addMirror(100, 0);
        int[] unknown = {-1, 1, 4, MIN, MAX};
        for (int mirror : unknown) {
            Check.due("bestPair(" + mirror + ", 0, 2)", x.bestPair(mirror, 0, 2), Check.UNKNOWN);
            Check.due("bestPair(" + mirror + ", 3, 2)", x.bestPair(mirror, 3, 2), Check.UNKNOWN);
            Check.due("bestPair(" + mirror + ", 0, 61)", x.bestPair(mirror, 0, 61), Check.UNKNOWN);
        }
        int[] bad = {0, -1, 61, MIN, MAX};
        for (int nights : bad) {
            Check.due("bestPair(0, 0, " + nights + ")", x.bestPair(0, 0, nights), Check.BAD_VALUE);
        }
        Check.due("bestPair(0, -1, 2) with nobody", x.bestPair(0, -1, 2), Check.BAD_VALUE);
        Check.due("bestPair(0, 3, 2) with nobody", x.bestPair(0, 3, 2), Check.BAD_VALUE);
        Check.due("bestPair(0, 0, 2) with nobody", x.bestPair(0, 0, 2), Check.NONE);
        Check.due("bestPair(0, 2, 60) with nobody", x.bestPair(0, 2, 60), Check.NONE);
    }
}
