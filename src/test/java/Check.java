/** Counts the answers that are not the ones that are due, and ends a test. */
final class Check {
    static final int UNKNOWN = -1000001;
    static final int BAD_VALUE = -1000002;
    static final int REFUSED = -1000003;
    static final int FULL = -1000004;
    static final int NONE = -1000005;

    private static int wrong = 0;
    private static int looked = 0;
    private static String sentence = "";
    private static int lookedBefore = 0;

    private Check() {
    }

    /** Begins the test of a sentence of DOC.md; one that looks at no answer is wrong itself. */
    static void says(String words) {
        endSentence();
        sentence = words;
        lookedBefore = looked;
    }

    private static void endSentence() {
        if (!sentence.isEmpty() && looked == lookedBefore) {
            wrong++;
            System.out.println("no answer is looked at for: " + sentence);
        }
        sentence = "";
    }

    private static void tell(String what) {
        wrong++;
        System.out.println(what + (sentence.isEmpty() ? "" : "; DOC.md says: " + sentence));
    }

    static void due(String call, long got, long want) {
        looked++;
        if (got != want) {
            tell(call + " answered " + got + ", due is " + want);
        }
    }

    static void holds(String what, boolean so) {
        looked++;
        if (!so) {
            tell(what + " does not hold");
        }
    }

    static void end() {
        endSentence();
        System.out.println(looked + " answers, " + wrong + " wrong");
        if (wrong != 0 || looked == 0) {
            System.exit(1);
        }
    }

    /** A planner with so many people who work the given hours on each weekday. */
    static MirrorPlanner withCrew(int people, int hours) {
        MirrorPlanner x = new MirrorPlanner();
        for (int person = 0; person < people; person++) {
            x.addPerson();
            for (int weekday = 0; weekday < 7; weekday++) {
                x.setHours(person, weekday, hours);
            }
        }
        return x;
    }

    /** Such a planner with so many mirrors of weight 100 and wear 0. */
    static MirrorPlanner withCrewAndMirrors(int people, int hours, int mirrors) {
        MirrorPlanner x = withCrew(people, hours);
        for (int i = 0; i < mirrors; i++) {
            x.addMirror(100, 0);
        }
        return x;
    }

    /** Lets nights pass until the present night is the given one, with few calls of the 512. */
    static void passTo(MirrorPlanner x, int night) {
        int left = night - x.count(0);
        while (left > 0) {
            int nights = Math.min(60, left);
            x.pass(nights);
            left -= nights;
        }
    }

    static void refused(String call, MirrorPlanner x, int got, int reason) {
        due(call, got, REFUSED);
        due("the reason of " + call, x.count(5), reason);
    }

    static int type(MirrorPlanner x, String text) {
        int answer = 0;
        for (int i = 0; i < text.length(); i++) {
            answer = x.type(text.charAt(i));
        }
        return answer;
    }

    /** Carries out a text in place of the one before. */
    static int run(MirrorPlanner x, String text) {
        x.clearText();
        type(x, text);
        return x.runOrders();
    }
}
