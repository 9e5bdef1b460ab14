/** Promises 14 to 17: the text, its orders, and what went wrong in them. */
public final class OrdersTest {
    public static void main(String[] args) {
        type();
        faults();
        ranges();
        runOrders();
        causes();
        failureStays();
        Check.end();
    }

    private static void type() {
        MirrorPlanner x = new MirrorPlanner();
        Check.due("clearText() of none", x.clearText(), 0);
        for (int i = 1; i <= 90; i++) {
            Check.due("type()", x.type((char) (i * 700)), i);
        }
        Check.due("a character too many", x.type('a'), Check.FULL);
        Check.due("and another one", x.type('a'), Check.FULL);
        Check.due("typing is no act", x.count(6), 0);
        Check.due("runOrders() of such a text", x.runOrders(), -100);
        Check.due("clearText()", x.clearText(), 90);
        Check.due("clearText() again", x.clearText(), 0);
        Check.due("type() then", x.type('n'), 1);
        x.addMirror(1, 1);
        x.undo();
        Check.due("the text is no part of the state", x.clearText(), 1);
    }

    private static void fault(String text, int at) {
        MirrorPlanner x = new MirrorPlanner();
        Check.due("fault of '" + text + "'", Check.run(x, text), -100 - at);
        Check.due("a text with a fault is not recorded", x.count(6), 0);
        Check.due("no order of it is carried out", x.count(0), 0);
        Check.due("failure(0)", x.failure(0), Check.NONE);
    }

    private static void faults() {
        fault("", 0);
        fault(" ", 0);
        fault(";", 0);
        fault(" nights 1", 0);
        fault("night 1", 0);
        fault("nightss 1", 0);
        fault("Nights 1", 0);
        fault("n", 0);
        fault("nights", 6);
        fault("nights ", 7);
        fault("nights;", 6);
        fault("nights ;", 7);
        fault("nights  1", 7);
        fault("nights x", 7);
        fault("nights 1x", 7);
        fault("nights 1 ", 8);
        fault("nights 1 2", 8);
        fault("nights 1;", 9);
        fault("nights 1; ", 9);
        fault("nights 1;;", 9);
        fault("nights 1;x", 9);
        fault("nights 1;nights 2;snow 0", 24);
        fault("nights 1;nights 2;snow 0;", 24);
        fault("nights 1;nights 61;snow 9", 16);
        fault("snow 0 0 0", 8);
        fault("snow 0  0", 7);
        fault("snow 4 0", 5);
        fault("snow 4", 5);
        fault("snow\t0 0", 0);
        fault("dust 1 2", 8);
        fault("dust 1 2 ", 9);
        fault("dust 1 2 3 4", 10);
        fault("drop -1", 5);
        fault("drop +1", 5);
        fault("drop 0001", 5);
        fault("nights 1" + (char) 0x663, 7);
        fault("nights :", 7);
        fault("nights 1/", 7);
        fault("dust 0 0 a", 9);
    }

    private static void ranges() {
        fault("snow 1 60", 7);
        fault("wash 4 1", 5);
        fault("wash 3 060", 7);
        fault("coat 999 1", 5);
        fault("drop 12", 5);
        fault("nights 0", 7);
        fault("nights 000", 7);
        fault("nights 61", 7);
        fault("dust 60 1 1", 5);
        fault("dust 1 60 1", 7);
        fault("dust 1 1 501", 9);
        MirrorPlanner x = new MirrorPlanner();
        Check.due("nights 001", Check.run(x, "nights 001"), 1);
        Check.due("nights 60", Check.run(x, "nights 60;nights 1"), 2);
        Check.due("dust 000 059 500", Check.run(x, "dust 000 059 500"), 1);
        Check.due("dust 59 59 0", Check.run(x, "dust 59 59 0"), 1);
        Check.due("rate of its night", x.night(62 + 59, 0), 0);
        Check.due("rate of the first night", x.night(62, 0), 500);
        Check.due("rate ahead of it", x.night(61, 0), 20);
        Check.due("drop 11 is no fault", Check.run(x, "drop 11"), 0);
        Check.due("drop 011 is no fault", Check.run(x, "drop 011"), 0);
        Check.due("coat 3 59 is no fault", Check.run(x, "coat 3 59"), 0);
        Check.due("wash 3 59 is no fault", Check.run(x, "wash 003 059"), 0);
    }

    private static void runOrders() {
        MirrorPlanner x = Check.withCrew(3, 12);
        x.addMirror(10, 1);
        x.addMirror(10, 1);
        int orders = Check.run(x, "snow 0 1;wash 1 1;coat 0 3;nights 2;snow 1 1;drop 1;dust 0 2 7");
        Check.due("carried out", orders, 7);
        Check.due("failure(0)", x.failure(0), Check.NONE);
        Check.due("failure(1)", x.failure(1), Check.NONE);
        Check.due("the present night", x.count(0), 2);
        Check.due("done", x.count(7), 2);
        Check.due("the log tells the wash", x.log(0, 1), 1);
        Check.due("left in the plan", x.count(3), 1);
        Check.due("the coat is left", x.planned(0, 1), 2);
        Check.due("its day", x.planned(0, 2), 3);
        Check.due("rate of night 2", x.night(2, 0), 7);
        Check.due("rate of night 4", x.night(4, 0), 7);
        Check.due("rate of night 5", x.night(5, 0), 20);
        Check.due("the text stays", x.clearText(), 62);
        Check.due("all are one act", x.undo(), 5);
        Check.due("the night behind undo", x.count(0), 0);
        Check.due("the plan behind undo", x.count(3), 0);
        Check.due("the next state is that ahead of the mirror", x.undo(), 4);
        Check.due("mirrors", x.count(1), 1);
    }

    private static void causes() {
        MirrorPlanner x = Check.withCrew(1, 1);
        x.addMirror(10, 1);
        x.addMirror(10, 1);
        Check.due("drop of none", Check.run(x, "drop 0;nights 1"), 0);
        Check.due("failure(0)", x.failure(0), 0);
        Check.due("failure(1) for UNKNOWN", x.failure(1), 11);
        Check.due("a failed first order is recorded", x.undo(), 5);
        Check.due("no reason of this", x.count(5), 0);
        Check.due("no such mirror", Check.run(x, "nights 1;snow 3 0"), 1);
        Check.due("failure(0)", x.failure(0), 1);
        Check.due("failure(1)", x.failure(1), 11);
        Check.due("the night has passed", x.count(0), 1);
        Check.due("B less than A", Check.run(x, "dust 2 1 5"), 0);
        Check.due("failure(1) for BAD_VALUE", x.failure(1), 12);
        Check.due("wash with one person", Check.run(x, "snow 0 0;wash 0 1"), 1);
        Check.due("failure(1) for 1", x.failure(1), 1);
        Check.due("the reason too", x.count(5), 1);
        Check.due("no hours", Check.run(x, "snow 1 0"), 0);
        Check.due("failure(1) for 2", x.failure(1), 2);
        x.setHours(0, 1, 12);
        Check.due("the same mirror", Check.run(x, "snow 1 0;snow 1 0;snow 1 1"), 1);
        Check.due("failure(0)", x.failure(0), 1);
        Check.due("failure(1) for 3", x.failure(1), 3);
        Check.due("orders behind are not carried out", x.count(3), 2);
        Check.run(x, "snow 0 1;snow 0 2;snow 0 3;snow 0 4;snow 0 5;snow 0 6;snow 0 8;snow 0 9;snow 0 10");
        Check.due("eleven", x.count(3), 11);
        Check.due("a thirteenth", Check.run(x, "snow 0 11;snow 0 12"), 1);
        Check.due("failure(1) for 4", x.failure(1), 4);
        for (int i = 0; i < 10; i++) {
            x.setDust(0, 0, 0);
        }
        Check.due("an eleventh period", Check.run(x, "dust 0 0 0"), 0);
        Check.due("failure(1) for 5", x.failure(1), 5);
        Check.due("reason 5", x.count(5), 5);
        Check.due("failure(-1)", x.failure(-1), Check.BAD_VALUE);
        Check.due("failure(2)", x.failure(2), Check.BAD_VALUE);
        MirrorPlanner y = new MirrorPlanner();
        for (int i = 0; i < 166; i++) {
            y.pass(60);
        }
        Check.due("a period to night 9999", Check.run(y, "dust 0 39 1"), 1);
        Check.due("its rate", y.night(9999, 0), 1);
        Check.due("a period above 9999", Check.run(y, "dust 0 40 2"), 0);
        Check.due("failure(1) for it", y.failure(1), 12);
    }

    private static void failureStays() {
        MirrorPlanner x = new MirrorPlanner();
        x.addMirror(10, 1);
        Check.run(x, "nights 1;nights 2;drop 3");
        Check.due("failure(0)", x.failure(0), 2);
        Check.due("a text with a fault", Check.run(x, "nights"), -106);
        Check.due("it leaves the failed order", x.failure(0), 2);
        Check.due("it leaves the cause", x.failure(1), 11);
        x.undo();
        Check.due("undo leaves the failed order", x.failure(0), 2);
        x.addCleaning(0, 0, 0);
        Check.due("a refusal leaves the cause", x.failure(1), 11);
        Check.due("orders that all pass", Check.run(x, "nights 1"), 1);
        Check.due("no order failed", x.failure(0), Check.NONE);
        Check.due("no cause", x.failure(1), Check.NONE);
        x.undo();
        int states = x.count(6);
        x.addPerson();
        Check.due("acts behind orders are recorded", x.count(6), states + 1);
    }
}
