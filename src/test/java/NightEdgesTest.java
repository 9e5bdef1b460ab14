/** Sentence by sentence: MIRRORS, NIGHTS, and promises 1 to 5, 21, 22 and 24. */
public final class NightEdgesTest {
    private static final int MIN = Integer.MIN_VALUE;
    private static final int MAX = Integer.MAX_VALUE;

    public static void main(String[] args) {
        fourMirrors();
        weights();
        wears();
        firstDustAndAge();
        dustAtMost();
        ageByOne();
        behindTheIncrease();
        dustByTen();
        lossAtMost();
        lostRoundedDown();
        lostByNightAndMirror();
        lightFactors();
        presentNight();
        rates();
        magnitudes();
        tenPeriods();
        bothIncluded();
        toldLast();
        usualValues();
        above9999();
        emptyPlanner();
        badAheadOfFullMirrors();
        numbersOfPeriods();
        fromAndTo();
        badAheadOfRefused();
        periodsThatThereWere();
        nightEdges();
        mirrorEdges();
        lossOfPresent();
        lostEdges();
        Check.end();
    }

    private static void fourMirrors() {
        Check.says("There are at most 4 mirrors, numbered from 0.");
        MirrorPlanner x = new MirrorPlanner();
        for (int i = 0; i < 4; i++) {
            Check.due("addMirror()", x.addMirror(10 + i, i), i);
        }
        for (int i = 0; i < 3; i++) {
            Check.due("a mirror too many", x.addMirror(50, 5), Check.FULL);
        }
        Check.due("count(1)", x.count(1), 4);
        for (int i = 0; i < 4; i++) {
            Check.due("the weight of " + i, x.mirror(i, 0), 10 + i);
            Check.due("the wear of " + i, x.mirror(i, 1), i);
        }
        Check.due("mirror(4, 0)", x.mirror(4, 0), Check.UNKNOWN);
    }

    private static void weights() {
        Check.says("A mirror has a weight (0 to 100)");
        MirrorPlanner x = new MirrorPlanner();
        Check.due("addMirror(-1, 5)", x.addMirror(-1, 5), Check.BAD_VALUE);
        Check.due("addMirror(101, 5)", x.addMirror(101, 5), Check.BAD_VALUE);
        Check.due("addMirror(MIN, 5)", x.addMirror(MIN, 5), Check.BAD_VALUE);
        Check.due("addMirror(MAX, 5)", x.addMirror(MAX, 5), Check.BAD_VALUE);
        Check.due("none of them was added", x.count(1), 0);
        Check.due("addMirror(0, 5)", x.addMirror(0, 5), 0);
        Check.due("addMirror(100, 5)", x.addMirror(100, 5), 1);
        Check.due("mirror(0, 0)", x.mirror(0, 0), 0);
        Check.due("mirror(1, 0)", x.mirror(1, 0), 100);
    }

    private static void wears() {
        Check.says("a wear (0 to 20)");
        MirrorPlanner x = new MirrorPlanner();
        Check.due("addMirror(5, -1)", x.addMirror(5, -1), Check.BAD_VALUE);
        Check.due("addMirror(5, 21)", x.addMirror(5, 21), Check.BAD_VALUE);
        Check.due("addMirror(5, MIN)", x.addMirror(5, MIN), Check.BAD_VALUE);
        Check.due("addMirror(5, MAX)", x.addMirror(5, MAX), Check.BAD_VALUE);
        Check.due("none of them was added", x.count(1), 0);
        Check.due("addMirror(5, 0)", x.addMirror(5, 0), 0);
        Check.due("addMirror(5, 20)", x.addMirror(5, 20), 1);
        Check.due("mirror(0, 1)", x.mirror(0, 1), 0);
        Check.due("mirror(1, 1)", x.mirror(1, 1), 20);
    }

    private static void firstDustAndAge() {
        Check.says("a dust (0 to 100000, 0 at first) and an age (the nights since it was coated, 0 at first)");
        MirrorPlanner x = new MirrorPlanner();
        x.addMirror(5, 5);
        Check.due("dust", x.mirror(0, 2), 0);
        Check.due("age", x.mirror(0, 3), 0);
        x.pass(9);
        x.addMirror(5, 5);
        Check.due("dust of a later one", x.mirror(1, 2), 0);
        Check.due("age of a later one", x.mirror(1, 3), 0);
    }

    /** 199 nights of 500 leave 99500. */
    private static MirrorPlanner dusty(int rateOfNight199) {
        MirrorPlanner x = new MirrorPlanner();
        x.addMirror(1, 0);
        x.setDust(0, 9999, 500);
        x.setDust(199, 199, rateOfNight199);
        Check.passTo(x, 199);
        Check.due("dust of 199 nights", x.mirror(0, 2), 99500);
        x.pass(1);
        return x;
    }

    private static void dustAtMost() {
        Check.says("the dust of each mirror increases by the rate of the night, but to at most 100000");
        MirrorPlanner x = dusty(499);
        Check.due("99500 and 499", x.mirror(0, 2), 99999);
        x.setDust(200, 200, 1);
        x.pass(1);
        Check.due("99999 and 1", x.mirror(0, 2), 100000);
        x.setDust(201, 201, 1);
        x.pass(1);
        Check.due("100000 and 1", x.mirror(0, 2), 100000);
        x.pass(60);
        Check.due("it stays at most", x.mirror(0, 2), 100000);
        x = dusty(500);
        Check.due("99500 and 500", x.mirror(0, 2), 100000);
        x = dusty(498);
        x.pass(1);
        Check.due("99998 and 500", x.mirror(0, 2), 100000);
        x = dusty(0);
        Check.due("a rate of 0", x.mirror(0, 2), 99500);
    }

    private static void ageByOne() {
        Check.says("and its age increases by 1");
        MirrorPlanner x = new MirrorPlanner();
        x.addMirror(5, 0);
        x.pass(1);
        Check.due("age of one night", x.mirror(0, 3), 1);
        x.addMirror(5, 20);
        x.pass(60);
        Check.due("age of 61 nights", x.mirror(0, 3), 61);
        Check.due("age of the later one", x.mirror(1, 3), 60);
    }

    private static void behindTheIncrease() {
        Check.says("behind this, its loss in the night is dust / 10 + age * wear, but at most 10000 "
            + "(by the dust and the age as they are then)");
        MirrorPlanner x = new MirrorPlanner();
        x.addMirror(100, 0);
        x.setMagnitude(0, 9999, 30);
        x.setDust(0, 0, 10);
        Check.due("the dust of the first night counts in it", x.pass(1), 100);
        x = new MirrorPlanner();
        x.addMirror(100, 1);
        x.setMagnitude(0, 9999, 30);
        x.setDust(0, 9999, 0);
        Check.due("the age of the first night counts in it", x.pass(1), 100);
        Check.due("and that of the second one", x.pass(1), 200);
    }

    private static void dustByTen() {
        Check.says("All quotients are rounded down.");
        int[] rates = {9, 10, 19, 20, 99, 109};
        int[] losses = {0, 1, 1, 2, 9, 10};
        for (int i = 0; i < rates.length; i++) {
            MirrorPlanner x = new MirrorPlanner();
            x.addMirror(100, 0);
            x.setMagnitude(0, 0, 30);
            x.setDust(0, 0, rates[i]);
            Check.due("a night with " + rates[i], x.pass(1), 100 * losses[i]);
            Check.due("the loss for " + rates[i], x.mirror(0, 5), losses[i]);
        }
    }

    private static void lossAtMost() {
        Check.says("but at most 10000");
        MirrorPlanner x = new MirrorPlanner();
        x.addMirror(100, 20);
        x.setDust(0, 9999, 0);
        x.setDust(0, 0, 190);
        x.setMagnitude(0, 9999, 30);
        Check.passTo(x, 498);
        Check.due("498 * 20 + 19", x.mirror(0, 5), 9979);
        Check.due("499 * 20 + 19", x.pass(1), 999900);
        Check.due("its loss", x.mirror(0, 5), 9999);
        Check.due("500 * 20 + 19", x.pass(1), 1000000);
        Check.due("its loss", x.mirror(0, 5), 10000);
        Check.due("the age goes on", x.mirror(0, 3), 500);
        MirrorPlanner y = new MirrorPlanner();
        y.addMirror(1, 20);
        y.setDust(0, 9999, 0);
        y.setMagnitude(0, 9999, 30);
        Check.passTo(y, 499);
        Check.due("500 * 20", y.pass(1), 10000);
        Check.due("501 * 20", y.pass(1), 10000);
    }

    private static void lostRoundedDown() {
        Check.says("What is lost on the mirror in the night is weight * loss * f / 1000");
        // by weight, rate, magnitude: 1 * 3 * 325, 1 * 4 * 325, 40 * 1 * 325 / 1000, 10 * 1 * 100
        int[][] rows = {{1, 30, 15, 0}, {1, 40, 15, 1}, {40, 10, 15, 13}, {10, 10, 0, 1},
            {9, 10, 0, 0}, {0, 500, 30, 0}, {100, 500, 30, 5000}, {99, 70, 14, 205}};
        for (int[] row : rows) {
            MirrorPlanner x = new MirrorPlanner();
            x.addMirror(row[0], 0);
            x.setDust(0, 0, row[1]);
            x.setMagnitude(0, 0, row[2]);
            Check.due("a night of weight " + row[0] + ", rate " + row[1], x.pass(1), row[3]);
            Check.due("lost(0)", x.lost(0), row[3]);
        }
    }

    private static void lostByNightAndMirror() {
        Check.says("What is lost on the mirror in the night");
        MirrorPlanner x = new MirrorPlanner();
        x.addMirror(1, 0);
        x.addMirror(1, 0);
        x.setDust(0, 0, 30);
        x.setDust(1, 9999, 0);
        // 975 / 1000 for each mirror in each night
        Check.due("each mirror is rounded down", x.pass(1), 0);
        Check.due("each night is rounded down", x.pass(60), 0);
        Check.due("lost(0)", x.lost(0), 0);
        Check.due("lossAhead() too", x.lossAhead(60, 0), 0);
    }

    private static void lightFactors() {
        Check.says("where f is 100 + m * m with the magnitude m of the night");
        int[] magnitudes = {0, 1, 2, 14, 15, 16, 29, 30};
        int[] factors = {100, 101, 104, 296, 325, 356, 941, 1000};
        for (int i = 0; i < magnitudes.length; i++) {
            MirrorPlanner x = new MirrorPlanner();
            x.addMirror(100, 0);
            x.setDust(0, 0, 100);
            x.setMagnitude(0, 0, magnitudes[i]);
            Check.due("a night of magnitude " + magnitudes[i], x.pass(1), factors[i]);
        }
    }

    private static void presentNight() {
        Check.says("The present night is the first one that has not passed, 0 at first.");
        MirrorPlanner x = new MirrorPlanner();
        Check.due("count(0)", x.count(0), 0);
        x.pass(1);
        Check.due("behind one night", x.count(0), 1);
        x.addMirror(100, 0);
        x.setDust(1, 1, 300);
        x.pass(1);
        Check.due("night 1 was the one that passed", x.mirror(0, 2), 300);
    }

    private static void rates() {
        Check.says("Nights have rates of dust (0 to 500)");
        MirrorPlanner x = new MirrorPlanner();
        Check.due("setDust(3, 4, -1)", x.setDust(3, 4, -1), Check.BAD_VALUE);
        Check.due("setDust(3, 4, 501)", x.setDust(3, 4, 501), Check.BAD_VALUE);
        Check.due("setDust(3, 4, MIN)", x.setDust(3, 4, MIN), Check.BAD_VALUE);
        Check.due("setDust(3, 4, MAX)", x.setDust(3, 4, MAX), Check.BAD_VALUE);
        Check.due("none of them was told", x.night(3, 0), 20);
        Check.due("setDust(3, 3, 0)", x.setDust(3, 3, 0), 1);
        Check.due("setDust(4, 4, 500)", x.setDust(4, 4, 500), 2);
        Check.due("night(3, 0)", x.night(3, 0), 0);
        Check.due("night(4, 0)", x.night(4, 0), 500);
    }

    private static void magnitudes() {
        Check.says("and magnitudes (0 to 30)");
        MirrorPlanner x = new MirrorPlanner();
        Check.due("setMagnitude(3, 4, -1)", x.setMagnitude(3, 4, -1), Check.BAD_VALUE);
        Check.due("setMagnitude(3, 4, 31)", x.setMagnitude(3, 4, 31), Check.BAD_VALUE);
        Check.due("setMagnitude(3, 4, MIN)", x.setMagnitude(3, 4, MIN), Check.BAD_VALUE);
        Check.due("setMagnitude(3, 4, MAX)", x.setMagnitude(3, 4, MAX), Check.BAD_VALUE);
        Check.due("none of them was told", x.night(3, 1), 15);
        Check.due("setMagnitude(3, 3, 0)", x.setMagnitude(3, 3, 0), 1);
        Check.due("setMagnitude(4, 4, 30)", x.setMagnitude(4, 4, 30), 2);
        Check.due("night(3, 1)", x.night(3, 1), 0);
        Check.due("night(4, 1)", x.night(4, 1), 30);
    }

    private static void tenPeriods() {
        Check.says("They are told by at most 10 periods of each sort");
        MirrorPlanner x = new MirrorPlanner();
        for (int i = 1; i <= 10; i++) {
            Check.due("period " + i + " of dust", x.setDust(i, i, i), i);
        }
        Check.refused("an eleventh of dust", x, x.setDust(11, 11, 11), 5);
        Check.due("it was not told", x.night(11, 0), 20);
        for (int i = 1; i <= 10; i++) {
            Check.due("period " + i + " of magnitudes", x.setMagnitude(i, i, i), i);
        }
        Check.refused("an eleventh of magnitudes", x, x.setMagnitude(11, 11, 11), 5);
        Check.due("it was not told", x.night(11, 1), 15);
        for (int i = 1; i <= 10; i++) {
            Check.due("night(" + i + ", 0)", x.night(i, 0), i);
            Check.due("night(" + i + ", 1)", x.night(i, 1), i);
        }
        Check.due("all twenty", x.clearPeriods(), 20);
        Check.due("then there is room", x.setDust(11, 11, 11), 1);
        Check.due("and for magnitudes", x.setMagnitude(11, 11, 11), 1);
    }

    private static void bothIncluded() {
        Check.says("from a night to a night (both included, 0 to 9999)");
        MirrorPlanner x = new MirrorPlanner();
        x.setDust(0, 0, 1);
        x.setDust(9999, 9999, 2);
        x.setDust(5, 7, 3);
        x.setMagnitude(0, 0, 4);
        x.setMagnitude(9999, 9999, 5);
        x.setMagnitude(5, 7, 6);
        int[] nights = {0, 1, 4, 5, 6, 7, 8, 9998, 9999};
        int[] rates = {1, 20, 20, 3, 3, 3, 20, 20, 2};
        int[] magnitudes = {4, 15, 15, 6, 6, 6, 15, 15, 5};
        for (int i = 0; i < nights.length; i++) {
            Check.due("night(" + nights[i] + ", 0)", x.night(nights[i], 0), rates[i]);
            Check.due("night(" + nights[i] + ", 1)", x.night(nights[i], 1), magnitudes[i]);
        }
    }

    private static void toldLast() {
        Check.says("the rate of a night is that of the period with this night that was told last");
        MirrorPlanner x = new MirrorPlanner();
        x.setDust(0, 100, 1);
        x.setDust(50, 60, 2);
        x.setDust(55, 70, 3);
        x.setDust(20, 52, 4);
        x.setMagnitude(50, 60, 5);
        x.setMagnitude(0, 100, 6);
        int[] nights = {0, 19, 20, 50, 52, 53, 54, 55, 60, 61, 70, 71, 100, 101};
        int[] rates = {1, 1, 4, 4, 4, 2, 2, 3, 3, 3, 3, 1, 1, 20};
        for (int i = 0; i < nights.length; i++) {
            Check.due("night(" + nights[i] + ", 0)", x.night(nights[i], 0), rates[i]);
        }
        Check.due("a wide one told last", x.night(55, 1), 6);
        x.setMagnitude(55, 55, 30);
        Check.due("a narrow one told last", x.night(55, 1), 30);
    }

    private static void usualValues() {
        Check.says("20 if there is none; its magnitude likewise, 15 if there is none");
        MirrorPlanner x = new MirrorPlanner();
        Check.due("night(0, 0)", x.night(0, 0), 20);
        Check.due("night(0, 1)", x.night(0, 1), 15);
        x.setDust(1, 9998, 0);
        Check.due("a night with a rate alone", x.night(1, 1), 15);
        x.setMagnitude(1, 9998, 0);
        Check.due("a night ahead", x.night(0, 0), 20);
        Check.due("a night ahead", x.night(0, 1), 15);
        Check.due("a night behind", x.night(9999, 0), 20);
        Check.due("a night behind", x.night(9999, 1), 15);
    }

    private static void above9999() {
        Check.says("(as for all nights above 9999)");
        MirrorPlanner x = new MirrorPlanner();
        x.setDust(0, 9999, 0);
        x.setDust(9999, 9999, 400);
        x.setMagnitude(0, 9999, 0);
        Check.passTo(x, 9999);
        x.addMirror(100, 0);
        Check.due("ahead of night 9999", x.lossAhead(2, 1), 400 + 100 * 42 * 325 / 1000);
        Check.due("night 9999", x.pass(1), 400);
        Check.due("the dust of night 9999", x.mirror(0, 2), 400);
        Check.due("night 10000", x.pass(1), 100 * 42 * 325 / 1000);
        Check.due("the dust of night 10000", x.mirror(0, 2), 420);
        Check.due("count(0)", x.count(0), 10001);
        Check.due("night 10001", x.pass(1), 100 * 44 * 325 / 1000);
    }

    private static void emptyPlanner() {
        Check.says("Creates a planner without mirrors and people.");
        MirrorPlanner x = new MirrorPlanner();
        Check.due("mirrors", x.count(1), 0);
        Check.due("people", x.count(2), 0);
        Check.due("mirror(0, 0)", x.mirror(0, 0), Check.UNKNOWN);
        Check.due("hours(0, 0)", x.hours(0, 0), Check.UNKNOWN);
        Check.due("setHours(0, 0, 1)", x.setHours(0, 0, 1), Check.UNKNOWN);
        Check.due("setOff(0, 0, 1)", x.setOff(0, 0, 1), Check.UNKNOWN);
        Check.due("addCleaning(0, 0, 0)", x.addCleaning(0, 0, 0), Check.UNKNOWN);
        Check.due("bestDay(0, 0, 1)", x.bestDay(0, 0, 1), Check.UNKNOWN);
        Check.due("bestPair(0, 0, 2)", x.bestPair(0, 0, 2), Check.UNKNOWN);
        Check.due("pass(60)", x.pass(60), 0);
        Check.due("lossAhead(60, 1)", x.lossAhead(60, 1), 0);
    }

    private static void badAheadOfFullMirrors() {
        Check.says("Returns its number; BAD_VALUE; FULL if there are 4.");
        MirrorPlanner x = new MirrorPlanner();
        for (int i = 0; i < 4; i++) {
            x.addMirror(1, 1);
        }
        Check.due("a bad weight", x.addMirror(101, 1), Check.BAD_VALUE);
        Check.due("a bad wear", x.addMirror(1, 21), Check.BAD_VALUE);
        Check.due("a negative weight", x.addMirror(-1, 1), Check.BAD_VALUE);
        Check.due("a negative wear", x.addMirror(1, -1), Check.BAD_VALUE);
        Check.due("both at their edges", x.addMirror(100, 20), Check.FULL);
        x.undo();
        Check.due("there are 3 again", x.addMirror(100, 20), 3);
    }

    private static void numbersOfPeriods() {
        Check.says("Returns the number of such periods then");
        MirrorPlanner x = new MirrorPlanner();
        Check.due("setDust()", x.setDust(0, 0, 1), 1);
        Check.due("setMagnitude()", x.setMagnitude(0, 0, 1), 1);
        Check.due("the same once more", x.setDust(0, 0, 1), 2);
        Check.due("setMagnitude()", x.setMagnitude(0, 0, 1), 2);
        x.undo();
        Check.due("setMagnitude() behind undo", x.setMagnitude(9, 9, 1), 2);
        Check.due("setDust()", x.setDust(0, 0, 1), 3);
    }

    private static void fromAndTo() {
        Check.says("from: 0 to 9999; to: from to 9999");
        int[][] bad = {{-1, 5}, {-1, -1}, {10000, 10000}, {10000, 9999}, {5, 4}, {5, -1}, {9999, 9998},
            {1, 0}, {0, -1}, {0, 10000}, {9999, 10000}, {MIN, 5}, {5, MAX}, {MAX, MAX}, {MIN, MIN}, {MAX, MIN}};
        int[][] good = {{0, 0}, {0, 9999}, {9999, 9999}, {5, 5}, {9998, 9999}, {0, 1}};
        MirrorPlanner x = new MirrorPlanner();
        for (int[] period : bad) {
            Check.due("setDust(" + period[0] + ", " + period[1] + ", 7)",
                x.setDust(period[0], period[1], 7), Check.BAD_VALUE);
            Check.due("setMagnitude(" + period[0] + ", " + period[1] + ", 7)",
                x.setMagnitude(period[0], period[1], 7), Check.BAD_VALUE);
        }
        Check.due("none of them was told", x.clearPeriods(), Check.NONE);
        for (int i = 0; i < good.length; i++) {
            Check.due("setDust(" + good[i][0] + ", " + good[i][1] + ", 7)",
                x.setDust(good[i][0], good[i][1], 7), i + 1);
            Check.due("setMagnitude(" + good[i][0] + ", " + good[i][1] + ", 7)",
                x.setMagnitude(good[i][0], good[i][1], 7), i + 1);
        }
    }

    private static void badAheadOfRefused() {
        Check.says("BAD_VALUE; REFUSED for the reason 5.");
        MirrorPlanner x = new MirrorPlanner();
        for (int i = 0; i < 10; i++) {
            x.setDust(0, 0, 1);
            x.setMagnitude(0, 0, 1);
        }
        int[][] bad = {{-1, 0, 0}, {10000, 10000, 0}, {3, 2, 0}, {3, 10000, 0}, {3, 3, -1}, {3, 3, 501}};
        for (int[] row : bad) {
            Check.due("setDust() of a bad value", x.setDust(row[0], row[1], row[2]), Check.BAD_VALUE);
            Check.due("setMagnitude() of a bad value", x.setMagnitude(row[0], row[1], row[2]), Check.BAD_VALUE);
        }
        Check.due("setMagnitude(3, 3, 31)", x.setMagnitude(3, 3, 31), Check.BAD_VALUE);
        Check.due("no reason of these", x.count(5), 0);
        Check.refused("setDust(3, 3, 500)", x, x.setDust(3, 3, 500), 5);
        Check.refused("setMagnitude(3, 3, 30)", x, x.setMagnitude(3, 3, 30), 5);
    }

    private static void periodsThatThereWere() {
        Check.says("Returns the number of periods that there were; NONE if there were none.");
        MirrorPlanner x = new MirrorPlanner();
        Check.due("of none", x.clearPeriods(), Check.NONE);
        x.setDust(0, 0, 1);
        Check.due("of one rate", x.clearPeriods(), 1);
        x.setMagnitude(0, 0, 1);
        Check.due("of one magnitude", x.clearPeriods(), 1);
        Check.due("of none again", x.clearPeriods(), Check.NONE);
        x.setDust(0, 9999, 1);
        x.setMagnitude(0, 9999, 1);
        x.setMagnitude(0, 9999, 1);
        Check.due("of both sorts", x.clearPeriods(), 3);
        Check.due("the rate then", x.night(5, 0), 20);
        Check.due("the magnitude then", x.night(5, 1), 15);
    }

    private static void nightEdges() {
        Check.says("night: 0 to 9999; what: 0 for its rate of dust, 1 for its magnitude");
        MirrorPlanner x = new MirrorPlanner();
        int[] bad = {-1, 10000, MIN, MAX};
        for (int night : bad) {
            Check.due("night(" + night + ", 0)", x.night(night, 0), Check.BAD_VALUE);
            Check.due("night(" + night + ", 1)", x.night(night, 1), Check.BAD_VALUE);
        }
        int[] badWhat = {-1, 2, MIN, MAX};
        for (int what : badWhat) {
            Check.due("night(0, " + what + ")", x.night(0, what), Check.BAD_VALUE);
            Check.due("night(9999, " + what + ")", x.night(9999, what), Check.BAD_VALUE);
        }
        Check.due("night(0, 0)", x.night(0, 0), 20);
        Check.due("night(9999, 1)", x.night(9999, 1), 15);
        x.setDust(3, 3, 7);
        x.pass(9);
        Check.due("a night that has passed", x.night(3, 0), 7);
    }

    private static void mirrorEdges() {
        Check.says("Returns the property; UNKNOWN; BAD_VALUE.");
        MirrorPlanner x = new MirrorPlanner();
        x.addMirror(1, 2);
        x.addMirror(3, 4);
        int[] unknown = {-1, 2, 3, 4, MIN, MAX};
        for (int mirror : unknown) {
            Check.due("mirror(" + mirror + ", 0)", x.mirror(mirror, 0), Check.UNKNOWN);
            Check.due("mirror(" + mirror + ", 6)", x.mirror(mirror, 6), Check.UNKNOWN);
            Check.due("mirror(" + mirror + ", -1)", x.mirror(mirror, -1), Check.UNKNOWN);
        }
        int[] bad = {-1, 6, MIN, MAX};
        for (int what : bad) {
            Check.due("mirror(1, " + what + ")", x.mirror(1, what), Check.BAD_VALUE);
        }
        Check.due("mirror(1, 0)", x.mirror(1, 0), 3);
        Check.due("mirror(1, 1)", x.mirror(1, 1), 4);
        Check.due("mirror(1, 5)", x.mirror(1, 5), 0);
    }

    private static void lossOfPresent() {
        Check.says("5 for the loss that it would have in a night with its present dust and age");
        MirrorPlanner x = new MirrorPlanner();
        x.addMirror(100, 7);
        Check.due("at first", x.mirror(0, 5), 0);
        x.setDust(0, 0, 29);
        x.pass(1);
        Check.due("29 / 10 + 1 * 7", x.mirror(0, 5), 9);
        x.pass(1);
        Check.due("49 / 10 + 2 * 7", x.mirror(0, 5), 18);
        x.addMirror(0, 3);
        x.pass(1);
        Check.due("it does not count the weight", x.mirror(1, 5), 5);
    }

    private static void lostEdges() {
        Check.says("Returns what was lost on it in all nights that have passed; UNKNOWN.");
        MirrorPlanner x = new MirrorPlanner();
        x.addMirror(100, 0);
        int[] unknown = {-1, 1, 4, MIN, MAX};
        for (int mirror : unknown) {
            Check.due("lost(" + mirror + ")", x.lost(mirror), Check.UNKNOWN);
        }
        Check.due("of no night", x.lost(0), 0);
        x.setMagnitude(0, 9999, 30);
        x.pass(1);
        Check.due("of one night", x.lost(0), 200);
        x.addMirror(50, 0);
        x.pass(1);
        Check.due("of two nights", x.lost(0), 600);
        Check.due("of the later one", x.lost(1), 100);
        MirrorPlanner y = new MirrorPlanner();
        y.addMirror(100, 20);
        y.setMagnitude(0, 9999, 30);
        y.setDust(0, 9999, 500);
        Check.passTo(y, 600);
        long lost = y.lost(0);
        Check.passTo(y, 9000);
        Check.due("more than an int holds", y.lost(0), lost + 8400L * 1000000L);
    }
}
