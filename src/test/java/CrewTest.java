/** Promises 6 to 8, 25 and 26: people, hours, days off. */
public final class CrewTest {
    public static void main(String[] args) {
        addPerson();
        setHours();
        setOff();
        day();
        Check.end();
    }

    private static void addPerson() {
        MirrorPlanner x = new MirrorPlanner();
        for (int i = 0; i < 5; i++) {
            Check.due("addPerson()", x.addPerson(), i);
        }
        Check.due("a sixth person", x.addPerson(), Check.FULL);
        Check.due("people", x.count(2), 5);
        Check.due("it is recorded, but for FULL", x.count(6), 5);
        x.setHours(4, 3, 9);
        x.setOff(4, 0, 100);
        x.undo();
        x.undo();
        x.undo();
        Check.due("people behind undo", x.count(2), 4);
        Check.due("hours of one undone", x.hours(4, 3), Check.UNKNOWN);
        Check.due("another person in place", x.addPerson(), 4);
        Check.due("hours of the new one", x.hours(4, 3), 0);
        x.setHours(4, 3, 5);
        Check.due("the new one is not off", x.day(3, 0), 1);
    }

    private static void setHours() {
        MirrorPlanner x = new MirrorPlanner();
        Check.due("setHours of nobody", x.setHours(0, 9, 99), Check.UNKNOWN);
        x.addPerson();
        x.addPerson();
        Check.due("setHours(-1, 0, 0)", x.setHours(-1, 0, 0), Check.UNKNOWN);
        Check.due("setHours(2, 0, 0)", x.setHours(2, 0, 0), Check.UNKNOWN);
        Check.due("setHours(0, -1, 0)", x.setHours(0, -1, 0), Check.BAD_VALUE);
        Check.due("setHours(0, 7, 0)", x.setHours(0, 7, 0), Check.BAD_VALUE);
        Check.due("setHours(0, 0, -1)", x.setHours(0, 0, -1), Check.BAD_VALUE);
        Check.due("setHours(0, 0, 13)", x.setHours(0, 0, 13), Check.BAD_VALUE);
        Check.due("errors are not recorded", x.count(6), 2);
        Check.due("setHours(0, 6, 12)", x.setHours(0, 6, 12), 0);
        Check.due("setHours(0, 6, 5)", x.setHours(0, 6, 5), 12);
        Check.due("setHours(0, 6, 5) again", x.setHours(0, 6, 5), 5);
        Check.due("an act without change is recorded", x.count(6), 5);
        Check.due("setHours(1, 0, 3)", x.setHours(1, 0, 3), 0);
        Check.due("hours(0, 6)", x.hours(0, 6), 5);
        Check.due("hours(1, 0)", x.hours(1, 0), 3);
        Check.due("hours(1, 6)", x.hours(1, 6), 0);
        Check.due("hours(2, 9)", x.hours(2, 9), Check.UNKNOWN);
        Check.due("hours(-1, 0)", x.hours(-1, 0), Check.UNKNOWN);
        Check.due("hours(0, -1)", x.hours(0, -1), Check.BAD_VALUE);
        Check.due("hours(0, 7)", x.hours(0, 7), Check.BAD_VALUE);
    }

    private static void setOff() {
        MirrorPlanner x = Check.withCrew(2, 4);
        Check.due("setOff(2, 9, 8)", x.setOff(2, 9, 8), Check.UNKNOWN);
        Check.due("setOff(-1, 0, 0)", x.setOff(-1, 0, 0), Check.UNKNOWN);
        Check.due("setOff(0, -1, 0)", x.setOff(0, -1, 0), Check.BAD_VALUE);
        Check.due("setOff(0, 5, 4)", x.setOff(0, 5, 4), Check.BAD_VALUE);
        Check.due("setOff(0, 0, 10000)", x.setOff(0, 0, 10000), Check.BAD_VALUE);
        Check.due("setOff(0, 10000, 10000)", x.setOff(0, 10000, 10000), Check.BAD_VALUE);
        Check.due("day 0 ahead of it", x.day(0, 0), 2);
        Check.due("setOff(0, 0, 9999)", x.setOff(0, 0, 9999), 10000);
        Check.due("setOff(0, 3, 3)", x.setOff(0, 3, 3), 1);
        Check.due("the first one is replaced", x.day(2, 0), 2);
        Check.due("day 3", x.day(3, 0), 1);
        Check.due("day 3, hours", x.day(3, 1), 4);
        Check.due("day 4", x.day(4, 0), 2);
        Check.due("setOff(1, 3, 5)", x.setOff(1, 3, 5), 3);
        Check.due("day 3 with both off", x.day(3, 0), 0);
        Check.due("day 5", x.day(5, 1), 4);
        Check.due("day 6", x.day(6, 1), 8);
        x.undo();
        Check.due("day 5 behind undo", x.day(5, 1), 8);
    }

    private static void day() {
        MirrorPlanner x = new MirrorPlanner();
        x.addMirror(1, 1);
        x.addMirror(1, 1);
        x.addPerson();
        x.addPerson();
        x.setHours(0, 1, 12);
        x.setHours(1, 1, 1);
        x.setHours(1, 2, 7);
        Check.due("day(0, 0)", x.day(0, 0), 0);
        Check.due("day(1, 0)", x.day(1, 0), 2);
        Check.due("day(1, 1)", x.day(1, 1), 13);
        Check.due("day(9, 1)", x.day(9, 1), 7);
        Check.due("day(9997, 1) of weekday 1", x.day(9997, 1), 13);
        Check.due("day(9999, 0) of weekday 3", x.day(9999, 0), 0);
        x.addCleaning(0, 1, 1);
        x.addCleaning(1, 1, 1);
        Check.due("day(1, 2)", x.day(1, 2), 5);
        Check.due("day(8, 2)", x.day(8, 2), 13);
        x.setHours(0, 1, 2);
        Check.due("day(1, 2) less than 0", x.day(1, 2), -5);
        Check.due("the plan stays", x.count(3), 2);
        x.pass(2);
        Check.due("a day that has passed", x.day(1, 2), 3);
        Check.due("day(-1, 0)", x.day(-1, 0), Check.BAD_VALUE);
        Check.due("day(10000, 0)", x.day(10000, 0), Check.BAD_VALUE);
        Check.due("day(0, -1)", x.day(0, -1), Check.BAD_VALUE);
        Check.due("day(0, 3)", x.day(0, 3), Check.BAD_VALUE);
    }
}
