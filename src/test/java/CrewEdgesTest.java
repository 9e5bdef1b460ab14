/** Sentence by sentence: CREWS, and promises 6 to 8, 25 and 26. */
public final class CrewEdgesTest {
    private static final int MIN = Integer.MIN_VALUE;
    private static final int MAX = Integer.MAX_VALUE;

    public static void main(String[] args) {
        fivePeople();
        hoursAndWeekdays();
        zeroAtFirst();
        offBothIncluded();
        nobodyIsOffAtFirst();
        weekdays();
        onShift();
        sumOfHours();
        offAbove9999();
        previousHours();
        unknownAheadOfBadHours();
        inPlaceOfBefore();
        numberOfDays();
        unknownAheadOfBadOff();
        dayEdges();
        hoursLeft();
        hoursEdges();
        Check.end();
    }

    private static void fivePeople() {
        Check.says("There are at most 5 people, numbered from 0.");
        MirrorPlanner x = new MirrorPlanner();
        for (int i = 0; i < 5; i++) {
            Check.due("addPerson()", x.addPerson(), i);
            Check.due("count(2)", x.count(2), i + 1);
        }
        Check.due("a person too many", x.addPerson(), Check.FULL);
        Check.due("and another one", x.addPerson(), Check.FULL);
        Check.due("count(2)", x.count(2), 5);
        Check.due("hours(4, 0)", x.hours(4, 0), 0);
        Check.due("hours(5, 0)", x.hours(5, 0), Check.UNKNOWN);
        x.undo();
        Check.due("there is room behind undo", x.addPerson(), 4);
    }

    private static void hoursAndWeekdays() {
        Check.says("Each has hours (0 to 12) for each of the seven weekdays");
        MirrorPlanner x = new MirrorPlanner();
        x.addPerson();
        x.addPerson();
        int[] bad = {-1, 13, MIN, MAX};
        for (int hours : bad) {
            Check.due("setHours(1, 3, " + hours + ")", x.setHours(1, 3, hours), Check.BAD_VALUE);
        }
        int[] badDays = {-1, 7, MIN, MAX};
        for (int weekday : badDays) {
            Check.due("setHours(1, " + weekday + ", 3)", x.setHours(1, weekday, 3), Check.BAD_VALUE);
            Check.due("setHours(0, " + weekday + ", 3)", x.setHours(0, weekday, 3), Check.BAD_VALUE);
        }
        for (int weekday = 0; weekday < 7; weekday++) {
            Check.due("none was set", x.hours(0, weekday) + x.hours(1, weekday), 0);
        }
        for (int weekday = 0; weekday < 7; weekday++) {
            Check.due("setHours(0, " + weekday + ")", x.setHours(0, weekday, 12 - weekday), 0);
            Check.due("setHours(1, " + weekday + ")", x.setHours(1, weekday, weekday), 0);
        }
        for (int weekday = 0; weekday < 7; weekday++) {
            Check.due("hours(0, " + weekday + ")", x.hours(0, weekday), 12 - weekday);
            Check.due("hours(1, " + weekday + ")", x.hours(1, weekday), weekday);
        }
    }

    private static void zeroAtFirst() {
        Check.says("all 0 at first");
        MirrorPlanner x = new MirrorPlanner();
        for (int person = 0; person < 5; person++) {
            x.addPerson();
            for (int weekday = 0; weekday < 7; weekday++) {
                Check.due("hours(" + person + ", " + weekday + ")", x.hours(person, weekday), 0);
            }
        }
        Check.due("nobody is on shift", x.day(0, 0), 0);
    }

    private static void offBothIncluded() {
        Check.says("can be off from a day to a day (both included)");
        MirrorPlanner x = Check.withCrew(2, 5);
        x.setOff(0, 10, 12);
        int[] days = {9, 10, 11, 12, 13};
        int[] people = {2, 1, 1, 1, 2};
        for (int i = 0; i < days.length; i++) {
            Check.due("day(" + days[i] + ", 0)", x.day(days[i], 0), people[i]);
            Check.due("day(" + days[i] + ", 1)", x.day(days[i], 1), 5 * people[i]);
        }
        x.setOff(0, 0, 0);
        Check.due("day(0, 0)", x.day(0, 0), 1);
        Check.due("day(1, 0)", x.day(1, 0), 2);
        x.setOff(0, 9999, 9999);
        Check.due("day(9998, 0)", x.day(9998, 0), 2);
        Check.due("day(9999, 0)", x.day(9999, 0), 1);
    }

    private static void nobodyIsOffAtFirst() {
        Check.says("at first nobody is off");
        MirrorPlanner x = Check.withCrew(5, 1);
        int[] days = {0, 1, 6, 7, 5000, 9998, 9999};
        for (int day : days) {
            Check.due("day(" + day + ", 0)", x.day(day, 0), 5);
        }
        MirrorPlanner y = Check.withCrewAndMirrors(1, 1, 1);
        Check.passTo(y, 9960);
        Check.due("day 10019", y.addCleaning(0, 0, 59), 0);
        Check.due("day 10000", y.addCleaning(0, 0, 40), 0);
        MirrorPlanner z = Check.withCrew(1, 1);
        z.addPerson();
        z.setOff(1, 0, 9999);
        z.undo();
        z.undo();
        z.addPerson();
        z.setHours(1, 0, 3);
        Check.due("nor is a new person in place of one undone", z.day(0, 0), 2);
    }

    private static void weekdays() {
        Check.says("its weekday is n % 7");
        MirrorPlanner x = Check.withCrewAndMirrors(1, 0, 1);
        for (int weekday = 0; weekday < 7; weekday++) {
            x.setHours(0, weekday, weekday + 1);
        }
        int[] days = {0, 1, 6, 7, 8, 13, 14, 9995, 9996, 9999};
        int[] hours = {1, 2, 7, 1, 2, 7, 1, 7, 1, 4};
        for (int i = 0; i < days.length; i++) {
            Check.due("day(" + days[i] + ", 1)", x.day(days[i], 1), hours[i]);
        }
        x.setHours(0, 6, 0);
        Check.refused("day 6", x, x.addCleaning(0, 0, 6), 1);
        Check.due("day 7", x.addCleaning(0, 0, 7), 0);
        Check.refused("day 13", x, x.addCleaning(0, 0, 13), 1);
        Check.passTo(x, 10000);
        // 10002 % 7 is 6
        Check.refused("day 10002", x, x.addCleaning(0, 0, 2), 1);
        Check.due("day 10003", x.addCleaning(0, 0, 3), 0);
    }

    private static void onShift() {
        Check.says("a person is on shift if the hours of the weekday are more than 0 and the person is not off");
        MirrorPlanner x = Check.withCrew(3, 0);
        Check.due("with 0 hours", x.day(2, 0), 0);
        x.setHours(0, 2, 1);
        Check.due("with 1 hour", x.day(2, 0), 1);
        x.setHours(1, 2, 12);
        Check.due("with 12 hours", x.day(2, 0), 2);
        Check.due("another weekday", x.day(3, 0), 0);
        x.setOff(1, 2, 2);
        Check.due("one is off", x.day(2, 0), 1);
        Check.due("a week later", x.day(9, 0), 2);
        x.setHours(0, 2, 0);
        Check.due("the hours are 0 again", x.day(2, 0), 0);
        Check.due("and a week later", x.day(9, 0), 1);
    }

    private static void sumOfHours() {
        Check.says("The hours of a day are the sum of the hours of all who are on shift.");
        MirrorPlanner x = new MirrorPlanner();
        Check.due("of nobody", x.day(0, 1), 0);
        for (int person = 0; person < 5; person++) {
            x.addPerson();
            x.setHours(person, 0, 12);
            x.setHours(person, 1, person);
        }
        Check.due("of five", x.day(0, 1), 60);
        Check.due("of four with hours", x.day(1, 1), 10);
        x.setOff(4, 1, 1);
        Check.due("without the one who is off", x.day(1, 1), 6);
        x.setOff(3, 0, 0);
        Check.due("without another one", x.day(0, 1), 48);
    }

    private static void offAbove9999() {
        Check.says("to: from to 9999");
        MirrorPlanner x = Check.withCrewAndMirrors(1, 1, 1);
        x.setOff(0, 0, 9999);
        Check.passTo(x, 9990);
        Check.refused("day 9999", x, x.addCleaning(0, 0, 9), 1);
        Check.due("day 10000 is not in it", x.addCleaning(0, 0, 10), 0);
    }

    private static void previousHours() {
        Check.says("Returns the previous hours; UNKNOWN; BAD_VALUE.");
        MirrorPlanner x = new MirrorPlanner();
        x.addPerson();
        x.addPerson();
        Check.due("setHours(1, 6, 12)", x.setHours(1, 6, 12), 0);
        Check.due("setHours(1, 6, 0)", x.setHours(1, 6, 0), 12);
        Check.due("setHours(1, 6, 7)", x.setHours(1, 6, 7), 0);
        Check.due("setHours(0, 6, 1)", x.setHours(0, 6, 1), 0);
        Check.due("setHours(1, 0, 1)", x.setHours(1, 0, 1), 0);
        Check.due("setHours(1, 6, 7)", x.setHours(1, 6, 7), 7);
        x.setHours(1, 6, 13);
        Check.due("an error sets none", x.setHours(1, 6, 7), 7);
    }

    private static void unknownAheadOfBadHours() {
        Check.says("Where several errors can apply, the order of the @return line is the order of the checks.");
        MirrorPlanner x = new MirrorPlanner();
        x.addPerson();
        int[] unknown = {-1, 1, 5, MIN, MAX};
        for (int person : unknown) {
            Check.due("setHours(" + person + ", 0, 0)", x.setHours(person, 0, 0), Check.UNKNOWN);
            Check.due("setHours(" + person + ", 7, 0)", x.setHours(person, 7, 0), Check.UNKNOWN);
            Check.due("setHours(" + person + ", 0, 13)", x.setHours(person, 0, 13), Check.UNKNOWN);
            Check.due("hours(" + person + ", 0)", x.hours(person, 0), Check.UNKNOWN);
            Check.due("hours(" + person + ", 7)", x.hours(person, 7), Check.UNKNOWN);
        }
        Check.due("setHours(0, 7, 13)", x.setHours(0, 7, 13), Check.BAD_VALUE);
    }

    private static void inPlaceOfBefore() {
        Check.says("Tells when a person is off, in place of what was told before.");
        MirrorPlanner x = Check.withCrew(2, 4);
        x.setOff(0, 5, 9);
        x.setOff(0, 8, 12);
        int[] days = {4, 5, 7, 8, 12, 13};
        int[] people = {2, 2, 2, 1, 1, 2};
        for (int i = 0; i < days.length; i++) {
            Check.due("day(" + days[i] + ", 0)", x.day(days[i], 0), people[i]);
        }
        x.setOff(1, 5, 9);
        Check.due("the other one is off too", x.day(8, 0), 0);
        Check.due("the first one stays off", x.day(12, 0), 1);
    }

    private static void numberOfDays() {
        Check.says("Returns the number of days; UNKNOWN; BAD_VALUE.");
        MirrorPlanner x = new MirrorPlanner();
        x.addPerson();
        Check.due("setOff(0, 0, 0)", x.setOff(0, 0, 0), 1);
        Check.due("setOff(0, 9999, 9999)", x.setOff(0, 9999, 9999), 1);
        Check.due("setOff(0, 0, 9999)", x.setOff(0, 0, 9999), 10000);
        Check.due("setOff(0, 3, 4)", x.setOff(0, 3, 4), 2);
        x.pass(60);
        Check.due("days that have passed", x.setOff(0, 3, 5), 3);
    }

    private static void unknownAheadOfBadOff() {
        Check.says("from: 0 to 9999; to: from to 9999");
        MirrorPlanner x = Check.withCrew(1, 4);
        int[][] bad = {{-1, 5}, {-1, -1}, {10000, 10000}, {10000, 9999}, {5, 4}, {9999, 9998}, {0, -1},
            {0, 10000}, {9999, 10000}, {MIN, 5}, {5, MAX}, {MAX, MAX}, {MIN, MIN}, {MAX, MIN}};
        for (int[] off : bad) {
            Check.due("setOff(0, " + off[0] + ", " + off[1] + ")", x.setOff(0, off[0], off[1]), Check.BAD_VALUE);
            Check.due("setOff(1, " + off[0] + ", " + off[1] + ")", x.setOff(1, off[0], off[1]), Check.UNKNOWN);
            Check.due("setOff(-1, " + off[0] + ", " + off[1] + ")", x.setOff(-1, off[0], off[1]), Check.UNKNOWN);
        }
        Check.due("setOff(1, 0, 0)", x.setOff(1, 0, 0), Check.UNKNOWN);
        Check.due("setOff(MAX, 0, 0)", x.setOff(MAX, 0, 0), Check.UNKNOWN);
        Check.due("setOff(MIN, 0, 0)", x.setOff(MIN, 0, 0), Check.UNKNOWN);
        Check.due("nobody is off", x.day(0, 0) + x.day(5, 0) + x.day(9999, 0), 3);
    }

    private static void dayEdges() {
        Check.says("day: 0 to 9999; what: 0 for the number of people on shift");
        MirrorPlanner x = Check.withCrew(2, 4);
        int[] bad = {-1, 10000, MIN, MAX};
        for (int day : bad) {
            for (int what = 0; what < 3; what++) {
                Check.due("day(" + day + ", " + what + ")", x.day(day, what), Check.BAD_VALUE);
            }
        }
        int[] badWhat = {-1, 3, MIN, MAX};
        for (int what : badWhat) {
            Check.due("day(0, " + what + ")", x.day(0, what), Check.BAD_VALUE);
        }
        int[] days = {0, 9999};
        for (int day : days) {
            Check.due("day(" + day + ", 0)", x.day(day, 0), 2);
            Check.due("day(" + day + ", 1)", x.day(day, 1), 8);
            Check.due("day(" + day + ", 2)", x.day(day, 2), 8);
        }
    }

    private static void hoursLeft() {
        Check.says("2 for the hours that are left behind the cleanings of the plan on this day "
            + "(less than 0 if they do not suffice)");
        MirrorPlanner x = Check.withCrewAndMirrors(3, 6, 3);
        x.addCleaning(0, 2, 0);
        Check.due("behind a coat", x.day(0, 2), 6);
        x.addCleaning(1, 1, 0);
        Check.due("behind a wash", x.day(0, 2), 2);
        x.addCleaning(2, 0, 0);
        Check.due("behind snow", x.day(0, 2), 1);
        Check.due("the hours of the day", x.day(0, 1), 18);
        Check.due("a week later", x.day(7, 2), 18);
        x.setHours(0, 0, 5);
        Check.due("they just suffice", x.day(0, 2), 0);
        x.setHours(1, 0, 5);
        Check.due("they do not suffice", x.day(0, 2), -1);
        x.setOff(0, 0, 0);
        x.setOff(1, 0, 0);
        x.setOff(2, 0, 0);
        Check.due("nobody is on shift", x.day(0, 2), -17);
        x.dropCleaning(0);
        Check.due("without the coat", x.day(0, 2), -5);
        x.pass(1);
        Check.due("behind the day", x.day(0, 2), 0);
    }

    private static void hoursEdges() {
        Check.says("Returns the hours; UNKNOWN; BAD_VALUE.");
        MirrorPlanner x = new MirrorPlanner();
        x.addPerson();
        x.addPerson();
        x.setHours(0, 6, 12);
        x.setHours(1, 0, 11);
        int[] bad = {-1, 7, MIN, MAX};
        for (int weekday : bad) {
            Check.due("hours(0, " + weekday + ")", x.hours(0, weekday), Check.BAD_VALUE);
            Check.due("hours(1, " + weekday + ")", x.hours(1, weekday), Check.BAD_VALUE);
        }
        Check.due("hours(0, 6)", x.hours(0, 6), 12);
        Check.due("hours(1, 0)", x.hours(1, 0), 11);
        x.setOff(0, 0, 9999);
        Check.due("also of one who is off", x.hours(0, 6), 12);
    }
}
