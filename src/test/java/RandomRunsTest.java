import java.util.Random;

/** All promises: runs of calls from fixed seeds, with the answers of the reference. */
public final class RandomRunsTest {
    private static final int RUNS = Integer.getInteger("runs", 600);
    private static final String[] WORDS = {"snow", "wash", "coat", "drop", "nights", "dust", "fog"};

    private final Random random;
    private final MirrorPlanner x = new MirrorPlanner();
    private final Reference y = new Reference();
    private final String run;
    private final boolean wild;
    private int calls = 0;

    private RandomRunsTest(int seed) {
        random = new Random(seed);
        run = "run " + seed + ", call ";
        wild = seed % 4 == 0;
    }

    public static void main(String[] args) {
        for (int seed = 0; seed < RUNS; seed++) {
            RandomRunsTest test = new RandomRunsTest(seed);
            test.begin();
            test.steps(seed % 3 == 0);
        }
        Check.end();
    }

    /** Ends below the 512 calls that are promised: a step has at most some 110, the look some 180. */
    private void steps(boolean lookAtAll) {
        int most = lookAtAll ? 220 : 400;
        while (calls < most) {
            step();
        }
        if (lookAtAll) {
            lookAtAll();
        }
        Check.holds(run + "has at most 512 calls", calls <= 512);
    }

    /** A number of the range, at times one at its edges or just outside. */
    private int in(int low, int high) {
        int dice = random.nextInt(wild ? 12 : 60);
        switch (dice) {
            case 0:
                return low - 1;
            case 1:
                return high + 1;
            case 2:
                return low;
            case 3:
                return high;
            case 4:
                return random.nextInt(20) == 0 ? random.nextInt() : low;
            default:
                return low + random.nextInt(high - low + 1);
        }
    }

    private void due(String call, long got, long want) {
        calls++;
        Check.due(run + calls + ": " + call, got, want);
    }

    private void begin() {
        int mirrors = random.nextInt(5);
        for (int i = 0; i < mirrors; i++) {
            addMirror();
        }
        int people = random.nextInt(6);
        boolean strong = random.nextBoolean();
        for (int i = 0; i < people; i++) {
            due("addPerson()", x.addPerson(), y.addPerson());
            for (int weekday = 0; weekday < 7; weekday++) {
                setHours(i, weekday, random.nextInt(4) == 0 ? 0 : strong ? 4 + random.nextInt(9) : random.nextInt(7));
            }
        }
    }

    private void addMirror() {
        int weight = in(0, 100);
        int wear = in(0, 20);
        due("addMirror(" + weight + ", " + wear + ")", x.addMirror(weight, wear), y.addMirror(weight, wear));
    }

    private void setHours(int person, int weekday, int hours) {
        due("setHours(" + person + ", " + weekday + ", " + hours + ")",
            x.setHours(person, weekday, hours), y.setHours(person, weekday, hours));
    }

    private int nearNight() {
        return random.nextInt(8) == 0 ? in(0, 9999) : Math.min(9999, y.s.now + random.nextInt(80));
    }

    private void step() {
        int a;
        int b;
        int c;
        switch (random.nextInt(22)) {
            case 0:
                if (random.nextInt(4) == 0) {
                    addMirror();
                }
                break;
            case 1:
                a = nearNight();
                b = random.nextInt(15) == 0 ? in(Math.max(0, Math.min(a, 9999)), 9999) : a + random.nextInt(20) - (random.nextInt(9) == 0 ? 5 : 0);
                c = in(0, 500);
                due("setDust(" + a + ", " + b + ", " + c + ")", x.setDust(a, b, c), y.setDust(a, b, c));
                break;
            case 2:
                a = nearNight();
                b = random.nextInt(15) == 0 ? in(Math.max(0, Math.min(a, 9999)), 9999) : a + random.nextInt(20) - (random.nextInt(9) == 0 ? 5 : 0);
                c = in(0, 30);
                due("setMagnitude(" + a + ", " + b + ", " + c + ")",
                    x.setMagnitude(a, b, c), y.setMagnitude(a, b, c));
                break;
            case 3:
                if (random.nextInt(4) == 0) {
                    due("clearPeriods()", x.clearPeriods(), y.clearPeriods());
                }
                break;
            case 4:
                if (random.nextInt(4) == 0) {
                    due("addPerson()", x.addPerson(), y.addPerson());
                }
                break;
            case 5:
                setHours(in(0, Math.max(0, y.s.people.size() - 1)), in(0, 6), in(0, 12));
                break;
            case 6:
                a = in(0, Math.max(0, y.s.people.size() - 1));
                b = nearNight();
                c = Math.min(9999, b + random.nextInt(10));
                due("setOff(" + a + ", " + b + ", " + c + ")", x.setOff(a, b, c), y.setOff(a, b, c));
                break;
            case 7:
            case 8:
            case 9:
            case 10:
                a = in(0, Math.max(0, y.s.mirrors.size() - 1));
                b = in(0, 2);
                c = random.nextBoolean() ? random.nextInt(8) : in(0, 59);
                due("addCleaning(" + a + ", " + b + ", " + c + ")",
                    x.addCleaning(a, b, c), y.addCleaning(a, b, c));
                break;
            case 11:
                a = in(0, Math.max(0, y.s.plan.size() - 1));
                due("dropCleaning(" + a + ")", x.dropCleaning(a), y.dropCleaning(a));
                break;
            case 12:
                search();
                break;
            case 13:
            case 14:
                a = random.nextInt(4) == 0 ? in(1, 60) : 1 + random.nextInt(5);
                due("pass(" + a + ")", x.pass(a), y.pass(a));
                break;
            case 15:
                if (random.nextInt(3) == 0) {
                    orders();
                }
                break;
            case 16:
                due("undo()", x.undo(), y.undo());
                break;
            case 17:
                a = in(0, 1);
                due("keep(" + a + ")", x.keep(a), y.keep(a));
                break;
            case 18:
                a = in(0, 1);
                due("restore(" + a + ")", x.restore(a), y.restore(a));
                break;
            case 19:
                a = in(1, 60);
                b = in(0, 1);
                due("lossAhead(" + a + ", " + b + ")", x.lossAhead(a, b), y.lossAhead(a, b));
                break;
            case 20:
                lookAtNights();
                break;
            default:
                lookAtOne();
                break;
        }
    }

    private void search() {
        int a = in(0, Math.max(0, y.s.mirrors.size() - 1));
        int b = in(0, 2);
        int c = in(1, 60);
        due("bestDay(" + a + ", " + b + ", " + c + ")", x.bestDay(a, b, c), y.bestDay(a, b, c));
        int d = random.nextInt(6) == 0 ? c : in(1, 15);
        due("bestPair(" + a + ", " + b + ", " + d + ")", x.bestPair(a, b, d), y.bestPair(a, b, d));
    }

    private String number(int low, int high) {
        String digits = "" + in(low, high);
        return random.nextInt(12) == 0 ? "0" + digits : digits;
    }

    private void orders() {
        if (random.nextInt(9) != 0) {
            due("clearText()", x.clearText(), y.clearText());
        }
        StringBuilder text = new StringBuilder();
        int orders = 1 + random.nextInt(5);
        for (int i = 0; i < orders; i++) {
            text.append(i == 0 ? "" : ";").append(order());
        }
        if (random.nextInt(4) == 0) {
            spoil(text);
        }
        for (int i = 0; i < text.length(); i++) {
            char sign = text.charAt(i);
            due("type(" + (int) sign + ")", x.type(sign), y.type(sign));
        }
        int times = 1 + random.nextInt(2);
        for (int i = 0; i < times; i++) {
            due("runOrders() of '" + y.text + "'", x.runOrders(), y.runOrders());
            due("failure(0)", x.failure(0), y.failure(0));
            due("failure(1)", x.failure(1), y.failure(1));
        }
    }

    private String order() {
        String word = WORDS[random.nextInt(30) == 0 ? 6 : random.nextInt(6)];
        int mirrors = Math.max(0, y.s.mirrors.size() - 1);
        switch (word) {
            case "drop":
                return word + " " + number(0, Math.max(0, y.s.plan.size() - 1));
            case "nights":
                return word + " " + number(1, random.nextInt(4) == 0 ? 60 : 4);
            case "dust":
                int from = random.nextInt(20);
                return word + " " + from + " " + number(from, 59) + " " + number(0, 500);
            default:
                return word + " " + number(0, mirrors) + " " + number(0, random.nextBoolean() ? 59 : 5);
        }
    }

    private void spoil(StringBuilder text) {
        int at = random.nextInt(text.length());
        char sign = " ;09a".charAt(random.nextInt(5));
        switch (random.nextInt(4)) {
            case 0:
                text.deleteCharAt(at);
                break;
            case 1:
                text.insert(at, sign);
                break;
            case 2:
                text.setCharAt(at, sign);
                break;
            default:
                text.setLength(at);
                break;
        }
    }

    private void lookAtNights() {
        int a = random.nextInt(20) == 0 ? random.nextInt() : nearNight();
        int b = in(0, 1);
        int c = in(0, 2);
        due("night(" + a + ", " + b + ")", x.night(a, b), y.night(a, b));
        due("day(" + a + ", " + c + ")", x.day(a, c), y.day(a, c));
    }

    private void lookAtOne() {
        int a = in(0, 4);
        int b = in(0, 6);
        int c = in(0, 12);
        due("mirror(" + a + ", " + b + ")", x.mirror(a, b), y.mirror(a, b));
        due("lost(" + a + ")", x.lost(a), y.lost(a));
        due("hours(" + a + ", " + b + ")", x.hours(a, b), y.hours(a, b));
        due("planned(" + c + ", " + b + ")", x.planned(c, b), y.planned(c, b));
        due("log(" + c + ", " + b + ")", x.log(c, b), y.log(c, b));
        due("count(" + c + ")", x.count(c), y.count(c));
        due("failure(" + a + ")", x.failure(a), y.failure(a));
    }

    private void lookAtAll() {
        for (int i = 0; i < 12; i++) {
            for (int what = 0; what < 7; what++) {
                if (i < 4 && what < 6) {
                    due("mirror(" + i + ", " + what + ")", x.mirror(i, what), y.mirror(i, what));
                }
                if (i < 5) {
                    due("hours(" + i + ", " + what + ")", x.hours(i, what), y.hours(i, what));
                }
                if (what < 3) {
                    due("planned(" + i + ", " + what + ")", x.planned(i, what), y.planned(i, what));
                }
                if (what < 4) {
                    due("log(" + i + ", " + what + ")", x.log(i, what), y.log(i, what));
                }
            }
            due("lost(" + i + ")", x.lost(i), y.lost(i));
            due("count(" + i + ")", x.count(i), y.count(i));
        }
        for (int i = 0; i < 7; i++) {
            due("undo()", x.undo(), y.undo());
            due("lossAhead(60, 0)", x.lossAhead(60, 0), y.lossAhead(60, 0));
        }
    }
}
