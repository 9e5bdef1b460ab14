/** Counts the answers that are not the ones that are due, and ends a test. */
final class Check {
    static final int UNKNOWN = -1000001;
    static final int BAD_VALUE = -1000002;
    static final int REFUSED = -1000003;
    static final int FULL = -1000004;
    static final int NONE = -1000005;

    private static int wrong = 0;
    private static int looked = 0;

    private Check() {
    }

    static void due(String call, long got, long want) {
        looked++;
        if (got != want) {
            wrong++;
            System.out.println(call + " answered " + got + ", due is " + want);
        }
    }

    static void holds(String what, boolean so) {
        looked++;
        if (!so) {
            wrong++;
            System.out.println(what + " does not hold");
        }
    }

    static void end() {
        System.out.println(looked + " answers, " + wrong + " wrong");
        if (wrong != 0 || looked == 0) {
            System.exit(1);
        }
    }

    /** A planner with so many people who work the given hours on each weekday. */
    static MirrorPlanner withCrew(int people, int hours) {
        MirrorPlanner x = new MirrorPlanner();
        for (int person = 0; person < people; person++) {
            x.addPerson();
            for (int weekday = 0; weekday < 7; weekday++) {
                x.setHours(person, weekday, hours);
            }
        }
        return x;
    }

    static int type(MirrorPlanner x, String text) {
        int answer = 0;
        for (int i = 0; i < text.length(); i++) {
            answer = x.type(text.charAt(i));
        }
        return answer;
    }

    /** Carries out a text in place of the one before. */
    static int run(MirrorPlanner x, String text) {
        x.clearText();
        type(x, text);
        return x.runOrders();
    }
}
