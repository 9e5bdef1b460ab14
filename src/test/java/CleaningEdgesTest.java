/** Sentence by sentence: CLEANINGS, and promises 9, 10 and 27. */
public final class CleaningEdgesTest {
    private static final int MIN = Integer.MIN_VALUE;
    private static final int MAX = Integer.MAX_VALUE;

    public static void main(String[] args) {
        threeKinds();
        snow();
        wash();
        coat();
        atMostTwelve();
        notBeforeThePresent();
        ascendingDays();
        sameDay();
        firstOfTheReasons();
        tooFewPeople();
        tooFewHours();
        sameMirror();
        changesOfShifts();
        ahead();
        orderOfErrors();
        placeInPlan();
        drop();
        planned();
        Check.end();
    }

    private static void threeKinds() {
        Check.says("There are three kinds of cleanings");
        MirrorPlanner x = Check.withCrewAndMirrors(3, 12, 1);
        int[] bad = {-1, 3, MIN, MAX};
        for (int kind : bad) {
            Check.due("addCleaning(0, " + kind + ", 0)", x.addCleaning(0, kind, 0), Check.BAD_VALUE);
            Check.due("bestDay(0, " + kind + ", 9)", x.bestDay(0, kind, 9), Check.BAD_VALUE);
            Check.due("bestPair(0, " + kind + ", 9)", x.bestPair(0, kind, 9), Check.BAD_VALUE);
        }
        Check.due("none was added", x.count(3), 0);
        for (int kind = 0; kind < 3; kind++) {
            Check.due("addCleaning(0, " + kind + ")", x.addCleaning(0, kind, kind), kind);
            Check.due("planned(" + kind + ", 1)", x.planned(kind, 1), kind);
        }
    }

    /** The dust and age that a cleaning leaves of the dust and six nights, with no dust behind it. */
    private static void leaves(int kind, int dust, int dustThen, int ageThen) {
        MirrorPlanner x = Check.withCrewAndMirrors(3, 12, 1);
        x.setDust(0, 9999, 0);
        x.setDust(0, 0, Math.min(500, dust));
        x.setDust(1, 1, dust - Math.min(500, dust));
        x.pass(6);
        Check.due("dust ahead of it", x.mirror(0, 2), dust);
        x.addCleaning(0, kind, 0);
        x.pass(1);
        Check.due("dust of " + dust + " behind kind " + kind, x.mirror(0, 2), dustThen);
        Check.due("age behind kind " + kind, x.mirror(0, 3), ageThen);
    }

    private static void snow() {
        Check.says("0 snow takes 1 hour and needs 1 person on shift, and leaves dust / 2");
        MirrorPlanner x = Check.withCrewAndMirrors(1, 0, 2);
        Check.refused("nobody on shift", x, x.addCleaning(0, 0, 0), 1);
        x.setHours(0, 0, 1);
        Check.due("a person with an hour", x.addCleaning(0, 0, 0), 0);
        Check.due("no hour is left", x.day(0, 2), 0);
        Check.refused("another one", x, x.addCleaning(1, 0, 0), 2);
        leaves(0, 0, 0, 7);
        leaves(0, 1, 0, 7);
        leaves(0, 2, 1, 7);
        leaves(0, 439, 219, 7);
        leaves(0, 1000, 500, 7);
    }

    private static void wash() {
        Check.says("1 wash takes 4 hours and needs 2 people, and leaves dust / 20");
        MirrorPlanner x = Check.withCrewAndMirrors(2, 0, 1);
        x.setHours(0, 0, 12);
        Check.refused("one person with 12 hours", x, x.addCleaning(0, 1, 0), 1);
        x.setHours(0, 1, 1);
        x.setHours(1, 1, 2);
        Check.refused("two with 3 hours", x, x.addCleaning(0, 1, 1), 2);
        x.setHours(0, 1, 2);
        Check.due("two with 4 hours", x.addCleaning(0, 1, 1), 0);
        Check.due("no hour is left", x.day(1, 2), 0);
        x.setHours(0, 2, 1);
        x.setHours(1, 2, 3);
        Check.due("two with 1 and 3 hours", x.addCleaning(0, 1, 2), 1);
        leaves(1, 19, 0, 7);
        leaves(1, 20, 1, 7);
        leaves(1, 39, 1, 7);
        leaves(1, 40, 2, 7);
        leaves(1, 999, 49, 7);
    }

    private static void coat() {
        Check.says("2 coat takes 12 hours and needs 3 people, and leaves no dust and the age 0");
        MirrorPlanner x = Check.withCrewAndMirrors(3, 0, 1);
        x.setHours(0, 0, 12);
        x.setHours(1, 0, 12);
        Check.refused("two people with 24 hours", x, x.addCleaning(0, 2, 0), 1);
        x.setHours(0, 1, 4);
        x.setHours(1, 1, 4);
        x.setHours(2, 1, 3);
        Check.refused("three with 11 hours", x, x.addCleaning(0, 2, 1), 2);
        x.setHours(2, 1, 4);
        Check.due("three with 12 hours", x.addCleaning(0, 2, 1), 0);
        Check.due("no hour is left", x.day(1, 2), 0);
        leaves(2, 1, 0, 1);
        leaves(2, 1000, 0, 1);
        leaves(2, 0, 0, 1);
    }

    private static void atMostTwelve() {
        Check.says("The plan has at most 12 cleanings");
        MirrorPlanner x = Check.withCrewAndMirrors(1, 4, 2);
        for (int i = 0; i < 12; i++) {
            Check.due("a cleaning", x.addCleaning(0, 0, i), i);
        }
        Check.refused("one too many", x, x.addCleaning(1, 0, 20), 4);
        Check.due("count(3)", x.count(3), 12);
        Check.due("one less", x.dropCleaning(11), 11);
        Check.due("there is room", x.addCleaning(1, 0, 20), 11);
        Check.refused("and none again", x, x.addCleaning(1, 0, 21), 4);
        x.pass(1);
        Check.due("there is room behind a day", x.addCleaning(1, 0, 59), 11);
    }

    private static void notBeforeThePresent() {
        Check.says("a day that is not before the present night");
        MirrorPlanner x = Check.withCrewAndMirrors(1, 4, 2);
        x.pass(30);
        Check.due("the day before", x.addCleaning(0, 0, -1), Check.BAD_VALUE);
        Check.due("the present one", x.addCleaning(0, 0, 0), 0);
        Check.due("its day", x.planned(0, 2), 30);
        x.addCleaning(1, 0, 1);
        x.pass(1);
        Check.due("the one of the day that passed is gone", x.count(3), 1);
        Check.due("the one of the present day is there", x.planned(0, 2), 31);
    }

    private static void plan(MirrorPlanner x, int place, int mirror, int kind, int day) {
        Check.due("planned(" + place + ", 0)", x.planned(place, 0), mirror);
        Check.due("planned(" + place + ", 1)", x.planned(place, 1), kind);
        Check.due("planned(" + place + ", 2)", x.planned(place, 2), day);
    }

    private static void ascendingDays() {
        Check.says("They are ordered by ascending days");
        MirrorPlanner x = Check.withCrewAndMirrors(4, 12, 4);
        x.pass(3);
        Check.due("day 33", x.addCleaning(0, 2, 30), 0);
        Check.due("day 62", x.addCleaning(1, 1, 59), 1);
        Check.due("day 3", x.addCleaning(2, 0, 0), 0);
        Check.due("day 32", x.addCleaning(3, 1, 29), 1);
        Check.due("day 34", x.addCleaning(2, 2, 31), 3);
        plan(x, 0, 2, 0, 3);
        plan(x, 1, 3, 1, 32);
        plan(x, 2, 0, 2, 33);
        plan(x, 3, 2, 2, 34);
        plan(x, 4, 1, 1, 62);
        Check.due("planned(5, 0)", x.planned(5, 0), Check.NONE);
    }

    private static void sameDay() {
        Check.says("those of the same day in the order in which they were added");
        MirrorPlanner x = Check.withCrewAndMirrors(4, 12, 4);
        Check.due("mirror 3", x.addCleaning(3, 1, 5), 0);
        Check.due("another day behind", x.addCleaning(3, 0, 6), 1);
        Check.due("mirror 1", x.addCleaning(1, 2, 5), 1);
        Check.due("another day ahead", x.addCleaning(2, 0, 4), 0);
        Check.due("mirror 2", x.addCleaning(2, 0, 5), 3);
        Check.due("mirror 0", x.addCleaning(0, 1, 5), 4);
        plan(x, 0, 2, 0, 4);
        plan(x, 1, 3, 1, 5);
        plan(x, 2, 1, 2, 5);
        plan(x, 3, 2, 0, 5);
        plan(x, 4, 0, 1, 5);
        plan(x, 5, 3, 0, 6);
        x.dropCleaning(1);
        Check.due("added once more, it is the last", x.addCleaning(3, 1, 5), 4);
        plan(x, 1, 1, 2, 5);
        plan(x, 4, 3, 1, 5);
    }

    private static void firstOfTheReasons() {
        Check.says("A cleaning cannot be added to the plan for the first of these reasons that applies");
        MirrorPlanner x = Check.withCrewAndMirrors(2, 2, 2);
        x.addCleaning(0, 0, 0);
        x.setHours(0, 0, 12);
        x.setHours(1, 0, 0);
        Check.refused("1 and 3", x, x.addCleaning(0, 1, 0), 1);
        x.setHours(0, 0, 0);
        Check.refused("1 and 2", x, x.addCleaning(1, 0, 0), 1);
        Check.refused("1, 2 and 3", x, x.addCleaning(0, 0, 0), 1);
        x.setHours(0, 0, 1);
        Check.refused("2 and 3", x, x.addCleaning(0, 0, 0), 2);
        for (int i = 1; i < 12; i++) {
            x.addCleaning(0, 0, i);
        }
        Check.refused("2 and 4", x, x.addCleaning(1, 0, 0), 2);
        Check.refused("2, 3 and 4", x, x.addCleaning(0, 0, 0), 2);
        Check.refused("3 and 4", x, x.addCleaning(0, 0, 1), 3);
        Check.refused("1 and 4", x, x.addCleaning(1, 2, 1), 1);
        Check.refused("4 alone", x, x.addCleaning(1, 0, 1), 4);
        Check.refused("1, 3 and 4", x, x.addCleaning(0, 2, 1), 1);
    }

    private static void tooFewPeople() {
        Check.says("1 too few people are on shift on its day");
        MirrorPlanner x = Check.withCrewAndMirrors(5, 12, 1);
        x.setOff(4, 3, 5);
        x.setOff(3, 4, 5);
        x.setOff(2, 5, 6);
        Check.due("3 of 4 people", x.addCleaning(0, 2, 3), 0);
        Check.due("3 people", x.addCleaning(0, 2, 4), 1);
        Check.refused("2 people", x, x.addCleaning(0, 2, 5), 1);
        Check.due("2 of 2 people", x.addCleaning(0, 1, 5), 2);
        Check.due("the next day", x.addCleaning(0, 2, 6), 3);
    }

    private static void tooFewHours() {
        Check.says("2 the hours of the day are less than those that the cleanings of the plan on this day take, with it");
        MirrorPlanner x = Check.withCrewAndMirrors(3, 6, 4);
        x.addCleaning(3, 2, 8);
        x.addCleaning(3, 2, 6);
        Check.due("12 of 18 hours", x.addCleaning(0, 2, 7), 1);
        Check.due("16 of 18 hours", x.addCleaning(1, 1, 7), 2);
        Check.refused("20 of 18 hours", x, x.addCleaning(2, 1, 7), 2);
        Check.due("17 of 18 hours", x.addCleaning(2, 0, 7), 3);
        Check.due("18 of 18 hours", x.addCleaning(3, 0, 7), 4);
        MirrorPlanner y = Check.withCrewAndMirrors(2, 2, 3);
        Check.due("1 of 4 hours", y.addCleaning(0, 0, 0), 0);
        Check.refused("5 of 4 hours", y, y.addCleaning(1, 1, 0), 2);
        Check.due("2 of 4 hours", y.addCleaning(1, 0, 0), 1);
        y.dropCleaning(0);
        y.dropCleaning(0);
        Check.due("4 of 4 hours", y.addCleaning(1, 1, 0), 0);
        Check.refused("5 of 4 hours", y, y.addCleaning(0, 0, 0), 2);
    }

    private static void sameMirror() {
        Check.says("3 the plan has another cleaning of this mirror on this day");
        MirrorPlanner x = Check.withCrewAndMirrors(3, 12, 2);
        x.addCleaning(0, 1, 9);
        for (int kind = 0; kind < 3; kind++) {
            Check.refused("kind " + kind, x, x.addCleaning(0, kind, 9), 3);
        }
        Check.due("another mirror", x.addCleaning(1, 1, 9), 1);
        Check.due("the day ahead", x.addCleaning(0, 1, 8), 0);
        Check.due("the day behind", x.addCleaning(0, 1, 10), 3);
        x.dropCleaning(1);
        Check.due("without the first one", x.addCleaning(0, 0, 9), 2);
    }

    private static void changesOfShifts() {
        Check.says("(Changes of shifts do not change the plan.)");
        MirrorPlanner x = Check.withCrewAndMirrors(3, 12, 2);
        x.addCleaning(0, 2, 2);
        x.addCleaning(1, 1, 2);
        x.addCleaning(1, 0, 3);
        for (int person = 0; person < 3; person++) {
            x.setHours(person, 2, 0);
            x.setOff(person, 0, 9999);
        }
        Check.due("count(3)", x.count(3), 3);
        plan(x, 0, 0, 2, 2);
        plan(x, 1, 1, 1, 2);
        plan(x, 2, 1, 0, 3);
        Check.due("none is looked at ahead of its day", x.count(4), 0);
    }

    private static void ahead() {
        Check.says("how many days after the day of the present night it is, 0 to 59");
        MirrorPlanner x = Check.withCrewAndMirrors(1, 12, 1);
        int[] bad = {-1, 60, MIN, MAX, MIN + 1, -60};
        for (int days : bad) {
            Check.due("addCleaning(0, 0, " + days + ")", x.addCleaning(0, 0, days), Check.BAD_VALUE);
        }
        Check.due("none was added", x.count(3), 0);
        Check.due("0 days", x.addCleaning(0, 0, 0), 0);
        Check.due("59 days", x.addCleaning(0, 0, 59), 1);
        x.pass(60);
        Check.due("both have passed", x.count(7), 2);
        Check.due("0 days, later", x.addCleaning(0, 0, 0), 0);
        Check.due("59 days, later", x.addCleaning(0, 0, 59), 1);
        Check.due("planned(0, 2)", x.planned(0, 2), 60);
        Check.due("planned(1, 2)", x.planned(1, 2), 119);
        Check.passTo(x, 9999);
        Check.due("day 10058", x.addCleaning(0, 0, 59), 0);
        Check.due("its day", x.planned(0, 2), 10058);
    }

    private static void orderOfErrors() {
        Check.says("Returns its place in the plan, from 0; UNKNOWN; BAD_VALUE; REFUSED for the reasons 1 to 4.");
        MirrorPlanner x = new MirrorPlanner();
        x.addMirror(1, 1);
        int[] unknown = {-1, 1, 4, MIN, MAX};
        for (int mirror : unknown) {
            Check.due("addCleaning(" + mirror + ", 3, 60)", x.addCleaning(mirror, 3, 60), Check.UNKNOWN);
            Check.due("addCleaning(" + mirror + ", 0, 0)", x.addCleaning(mirror, 0, 0), Check.UNKNOWN);
        }
        Check.due("addCleaning(0, 3, 0) with nobody", x.addCleaning(0, 3, 0), Check.BAD_VALUE);
        Check.due("addCleaning(0, -1, 0) with nobody", x.addCleaning(0, -1, 0), Check.BAD_VALUE);
        Check.due("addCleaning(0, 0, 60) with nobody", x.addCleaning(0, 0, 60), Check.BAD_VALUE);
        Check.due("addCleaning(0, 0, -1) with nobody", x.addCleaning(0, 0, -1), Check.BAD_VALUE);
        Check.due("no reason of these", x.count(5), 0);
        Check.refused("addCleaning(0, 0, 0) with nobody", x, x.addCleaning(0, 0, 0), 1);
    }

    private static void placeInPlan() {
        Check.says("Returns its place in the plan, from 0");
        MirrorPlanner x = Check.withCrewAndMirrors(1, 12, 2);
        for (int i = 0; i < 11; i++) {
            Check.due("each one ahead of the others", x.addCleaning(0, 0, 40 - i), 0);
        }
        Check.due("the twelfth behind all", x.addCleaning(1, 0, 40), 11);
        plan(x, 0, 0, 0, 30);
        plan(x, 10, 0, 0, 40);
        plan(x, 11, 1, 0, 40);
    }

    private static void drop() {
        Check.says("Returns the number of cleanings in the plan then; UNKNOWN.");
        MirrorPlanner x = Check.withCrewAndMirrors(3, 12, 2);
        int[] none = {-1, 0, 1, 12, MIN, MAX};
        for (int place : none) {
            Check.due("of an empty plan, " + place, x.dropCleaning(place), Check.UNKNOWN);
        }
        for (int i = 0; i < 12; i++) {
            x.addCleaning(i % 2, i % 3, i);
        }
        Check.due("dropCleaning(12)", x.dropCleaning(12), Check.UNKNOWN);
        Check.due("dropCleaning(-1)", x.dropCleaning(-1), Check.UNKNOWN);
        Check.due("the last one", x.dropCleaning(11), 11);
        Check.due("dropCleaning(11)", x.dropCleaning(11), Check.UNKNOWN);
        Check.due("the first one", x.dropCleaning(0), 10);
        Check.due("one amid", x.dropCleaning(4), 9);
        int[] left = {1, 2, 3, 4, 6, 7, 8, 9, 10};
        for (int i = 0; i < left.length; i++) {
            plan(x, i, left[i] % 2, left[i] % 3, left[i]);
        }
        for (int i = 8; i >= 0; i--) {
            Check.due("the first one", x.dropCleaning(0), i);
        }
        Check.due("of none", x.dropCleaning(0), Check.UNKNOWN);
        Check.due("dropped ones are not missed", x.count(8), 0);
        x.pass(60);
        Check.due("nor looked at", x.count(4), 0);
    }

    private static void planned() {
        Check.says("BAD_VALUE if place is negative or what is out of range; "
            + "NONE if there are not so many cleanings in the plan.");
        MirrorPlanner x = Check.withCrewAndMirrors(3, 12, 2);
        Check.due("planned(0, 0) of none", x.planned(0, 0), Check.NONE);
        x.addCleaning(1, 2, 3);
        int[] badWhat = {-1, 3, MIN, MAX};
        for (int what : badWhat) {
            Check.due("planned(0, " + what + ")", x.planned(0, what), Check.BAD_VALUE);
            Check.due("planned(1, " + what + ")", x.planned(1, what), Check.BAD_VALUE);
            Check.due("planned(MAX, " + what + ")", x.planned(MAX, what), Check.BAD_VALUE);
        }
        for (int what = 0; what < 3; what++) {
            Check.due("planned(-1, " + what + ")", x.planned(-1, what), Check.BAD_VALUE);
            Check.due("planned(MIN, " + what + ")", x.planned(MIN, what), Check.BAD_VALUE);
            Check.due("planned(1, " + what + ")", x.planned(1, what), Check.NONE);
            Check.due("planned(12, " + what + ")", x.planned(12, what), Check.NONE);
            Check.due("planned(13, " + what + ")", x.planned(13, what), Check.NONE);
            Check.due("planned(MAX, " + what + ")", x.planned(MAX, what), Check.NONE);
        }
        plan(x, 0, 1, 2, 3);
        for (int i = 1; i < 12; i++) {
            x.addCleaning(0, 0, 10 + i);
        }
        plan(x, 11, 0, 0, 21);
        Check.due("planned(12, 0) of twelve", x.planned(12, 0), Check.NONE);
    }
}
