/** Sentence by sentence: ORDERS, and promises 14 to 17. */
public final class OrderEdgesTest {
    private static final int MIN = Integer.MIN_VALUE;
    private static final int MAX = Integer.MAX_VALUE;

    public static void main(String[] args) {
        ninetyCharacters();
        anyCharacter();
        lengthThatItHad();
        fullTexts();
        words();
        separators();
        digits();
        signsOfNumbers();
        ranges();
        playsNoPart();
        firstFaultCounts();
        notAllowed();
        emptyOnes();
        blanksAndSemicolons();
        tooEarly();
        upToTheNext();
        cleaningsOfOrders();
        dropsAndNights();
        dustOfOrders();
        upToTheFirst();
        causesOfRefusals();
        causesOfErrors();
        reasonOfOrders();
        textStays();
        oneAct();
        numberOfOrders();
        faultIsAnError();
        latestRun();
        failureEdges();
        Check.end();
    }

    private static void ninetyCharacters() {
        Check.says("There is a text of at most 90 characters, empty at first.");
        MirrorPlanner x = new MirrorPlanner();
        Check.due("the text of a new object", x.clearText(), 0);
        for (int i = 1; i <= 89; i++) {
            x.type('a');
        }
        Check.due("the 90th character", x.type('a'), 90);
        Check.due("the 91st character", x.type('a'), Check.FULL);
        Check.due("the 92nd character", x.type(';'), Check.FULL);
        Check.due("the text then", x.clearText(), 90);
        Check.due("the first character of the next text", x.type('a'), 1);
    }

    private static void anyCharacter() {
        Check.says("Returns the length of the text then; FULL if it has 90 characters.");
        MirrorPlanner x = new MirrorPlanner();
        char[] characters = {0, 1, 9, 10, ' ', ';', '0', 'z', 127, 128, 255, 256, 0x663, 0xD800, 0xFFFF};
        for (int i = 0; i < characters.length; i++) {
            Check.due("type(" + (int) characters[i] + ")", x.type(characters[i]), i + 1);
        }
        Check.due("typing is no act", x.count(6), 0);
        Check.due("clearText()", x.clearText(), characters.length);
        Check.due("nor is clearing", x.count(6), 0);
    }

    private static void lengthThatItHad() {
        Check.says("Empties the text. Returns the length that it had.");
        MirrorPlanner x = new MirrorPlanner();
        Check.due("of an empty text", x.clearText(), 0);
        x.type('n');
        Check.due("of one character", x.clearText(), 1);
        Check.due("of an empty text", x.clearText(), 0);
        Check.due("a text behind it", Check.type(x, "nights 1"), 8);
        Check.due("nothing of the old text is left", x.runOrders(), 1);
        x.clearText();
        Check.due("the empty text has a fault", x.runOrders(), -100);
        Check.type(x, "nig");
        Check.due("nor of a longer one", x.runOrders(), -100);
    }

    private static void fullTexts() {
        Check.says("There is a text of at most 90 characters");
        MirrorPlanner x = new MirrorPlanner();
        String nine = "nights 1;".repeat(9);
        Check.due("90 characters of orders", Check.type(x, nine + "nights 01"), 90);
        Check.due("they are carried out", x.runOrders(), 10);
        Check.due("count(0)", x.count(0), 10);
        Check.due("FULL changes no text", x.type('x'), Check.FULL);
        Check.due("carried out once more", x.runOrders(), 10);
        Check.due("90 characters with ; at the end", Check.run(x, nine + "nights 1;"), -190);
        Check.due("90 characters with a blank", Check.run(x, nine + "drop 000 "), -189);
        Check.due("90 characters with a word", Check.run(x, nine + "nights 1" + "x"), -188);
        Check.due("90 characters that lack a number", Check.run(x, nine + "dust 1 1 "), -190);
    }

    private static void fault(String text, int at) {
        MirrorPlanner x = new MirrorPlanner();
        Check.due("runOrders() of '" + text + "'", Check.run(x, text), -100 - at);
        Check.due("the night behind '" + text + "'", x.count(0), 0);
        Check.due("the states behind '" + text + "'", x.count(6), 0);
    }

    /** Orders without a fault; whether they fail plays no part. */
    private static void right(String text) {
        Check.holds("'" + text + "' has no fault", Check.run(new MirrorPlanner(), text) >= 0);
    }

    private static void words() {
        Check.says("It is a row of orders that are separated by \";\", each a word and numbers");
        String[] rest = {"snow 1 2", "wash 1 2", "coat 1 2", "drop 1", "nights 1", "dust 1 2 3"};
        for (String order : rest) {
            String word = order.substring(0, order.indexOf(' '));
            String numbers = order.substring(order.indexOf(' '));
            right(order);
            right("drop 1;" + order);
            fault(word.substring(1) + numbers, 0);
            fault(word.substring(0, word.length() - 1) + numbers, 0);
            fault(word + "s" + numbers, 0);
            fault(word.toUpperCase() + numbers, 0);
            fault("x" + word + numbers, 0);
            fault(word.substring(0, 2) + " " + numbers, 0);
            fault("drop 1;" + word + "x" + numbers, 7);
            for (int i = 0; i < word.length(); i++) {
                fault(word.substring(0, i) + "x" + word.substring(i + 1) + numbers, 0);
            }
        }
        fault("1 2", 0);
        fault("snowwash 1 2", 0);
        fault("fog 1", 0);
    }

    private static void separators() {
        Check.says("all separated by single blanks");
        fault("snow  1 2", 5);
        fault("snow 1  2", 7);
        fault("snow\t1 2", 0);
        fault("snow 1\t2", 5);
        fault("dust 1 2  3", 9);
        fault(" drop 1", 0);
        fault("drop 1; drop 1", 7);
        fault("drop 1 ;drop 1", 6);
        fault("snow1 2", 0);
        fault("snow,1,2", 0);
        fault("snow 1,2", 5);
        fault("drop 1,drop 1", 5);
        fault("drop 1\ndrop 1", 5);
    }

    private static void digits() {
        Check.says("A number has 1 to 3 digits (zeros can stand in front).");
        right("drop 1");
        right("drop 01");
        right("drop 001");
        right("drop 0");
        right("drop 00");
        right("drop 000");
        right("dust 059 059 050");
        fault("drop 0001", 5);
        fault("drop 0000", 5);
        fault("nights 0010", 7);
        fault("dust 1 1 0500", 9);
        fault("dust 1 0001 5", 7);
        fault("drop 4294967297", 5);
        fault("drop 99999999999999999999", 5);
    }

    private static void signsOfNumbers() {
        Check.says("A number has 1 to 3 digits");
        char[] signs = {'/', ':', 'a', '-', '+', '.', 'O', 0, 0x663, 0xFF11};
        for (char sign : signs) {
            fault("drop " + sign, 5);
            fault("drop " + sign + "1", 5);
            fault("drop 1" + sign, 5);
            fault("drop 0" + sign + "1", 5);
            fault("dust 1 2 " + sign + "3", 9);
        }
    }

    private static void ranges() {
        Check.says("The ranges are: M 0 to 3, A and B 0 to 59, I 0 to 11, N 1 to 60, R 0 to 500");
        String[] kinds = {"snow", "wash", "coat"};
        for (String kind : kinds) {
            right(kind + " 0 0");
            right(kind + " 3 59");
            fault(kind + " 4 0", 5);
            fault(kind + " 999 0", 5);
            fault(kind + " 0 60", 7);
            fault(kind + " 3 999", 7);
        }
        right("drop 0");
        right("drop 11");
        fault("drop 12", 5);
        fault("drop 999", 5);
        right("nights 1");
        right("nights 60");
        fault("nights 0", 7);
        fault("nights 61", 7);
        fault("nights 000", 7);
        fault("nights 999", 7);
        right("dust 0 0 0");
        right("dust 59 59 500");
        fault("dust 60 0 0", 5);
        fault("dust 0 60 0", 7);
        fault("dust 0 0 501", 9);
        fault("dust 59 59 999", 11);
    }

    private static void playsNoPart() {
        Check.says("whether there is such a mirror or cleaning, and whether B is less than A, plays no part for this.");
        MirrorPlanner x = new MirrorPlanner();
        String[] texts = {"snow 0 0", "wash 3 0", "coat 3 59", "drop 0", "drop 11", "dust 1 0 5", "dust 59 0 500"};
        int[] causes = {11, 11, 11, 11, 11, 12, 12};
        for (int i = 0; i < texts.length; i++) {
            Check.due("runOrders() of '" + texts[i] + "'", Check.run(x, texts[i]), 0);
            Check.due("failure(0) of '" + texts[i] + "'", x.failure(0), 0);
            Check.due("failure(1) of '" + texts[i] + "'", x.failure(1), causes[i]);
        }
    }

    private static void firstFaultCounts() {
        Check.says("The text is read from its beginning, and the first fault from there counts.");
        fault("fog 9;fog 9", 0);
        fault("drop 12;fog", 5);
        fault("snow 4 60", 5);
        fault("snow 3 60 1", 7);
        fault("dust 60 60 501", 5);
        fault("dust 59 60 501", 8);
        fault("drop 1;drop 12;drop  1", 12);
        fault("drop 1  ;", 6);
        fault("nights 1;nights 0;", 16);
    }

    private static void notAllowed() {
        Check.says("It is the index, from 0, of the first character of a word or number that is not allowed at its "
            + "place, whatever is wrong with it");
        fault("snov 0 0", 0);
        fault("drop 1;snov 0 0", 7);
        fault("drop 1;nights 1;coa 1 1", 16);
        fault("snow 1 2;wash 3 6x", 16);
        fault("snow 1 2;wash 3x 6", 14);
        fault("snow snow 1", 5);
        fault("snow 1 snow", 7);
        fault("0 snow", 0);
        fault("nights 60x", 7);
        fault("nights 6000", 7);
    }

    private static void emptyOnes() {
        Check.says("(if it is empty, of what stands there instead)");
        fault(" ", 0);
        fault(";", 0);
        fault("; ", 0);
        fault(" ;", 0);
        fault("drop ;", 5);
        fault("drop  ", 5);
        fault("drop 1;;", 7);
        fault("drop 1; ", 7);
        fault("drop 1;;drop 1", 7);
        fault("snow 1 ;", 7);
        fault("snow 1  ", 7);
        fault("dust 1 2 ;", 9);
        fault("dust ;", 5);
    }

    private static void blanksAndSemicolons() {
        Check.says("or of a blank or \";\" that stands where the other one of both, or the end, has to be");
        fault("drop;", 4);
        fault("drop;1", 4);
        fault("snow 1;", 6);
        fault("snow 1;2", 6);
        fault("dust 1 2;3", 8);
        fault("dust 1;2 3", 6);
        fault("drop 1 ", 6);
        fault("drop 1 2", 6);
        fault("drop 1 ;", 6);
        fault("snow 1 2 3", 8);
        fault("nights 10 drop 1", 9);
        fault("dust 1 2 3 ", 10);
    }

    private static void tooEarly() {
        Check.says("or it is the length of the text, if all before is right and the text ends too early "
            + "(the empty text does, and one that ends with \";\").");
        fault("", 0);
        fault("drop", 4);
        fault("drop ", 5);
        fault("snow 1", 6);
        fault("snow 1 ", 7);
        fault("dust", 4);
        fault("dust 1", 6);
        fault("dust 1 2", 8);
        fault("dust 1 2 ", 9);
        fault("nights", 6);
        fault("drop 1;", 7);
        fault("drop 1;drop 11;", 15);
        fault("drop 1;drop", 11);
        fault("dro", 0);
        fault("drop 1;dro", 7);
    }

    private static void upToTheNext() {
        Check.says("A word or number is what stands up to the next blank or \";\" or the end of the text.");
        fault("drop1 1", 0);
        fault("drop 1:drop 1", 5);
        fault("drop-1", 0);
        fault("snow 1 2drop 1", 7);
        fault("nights" + (char) 160 + "1", 0);
        right("drop 1;drop 1;drop 1");
        right("snow 1 2;drop 1");
    }

    private static void cleaningsOfOrders() {
        Check.says("snow, wash and coat add a cleaning of the mirror M with the day that is A days after the day "
            + "of the present night");
        MirrorPlanner x = Check.withCrewAndMirrors(3, 12, 4);
        x.pass(7);
        Check.due("runOrders()", Check.run(x, "coat 3 59;wash 2 1;snow 1 0;snow 0 000"), 4);
        int[][] rows = {{1, 0, 7}, {0, 0, 7}, {2, 1, 8}, {3, 2, 66}};
        for (int i = 0; i < 4; i++) {
            for (int what = 0; what < 3; what++) {
                Check.due("planned(" + i + ", " + what + ")", x.planned(i, what), rows[i][what]);
            }
        }
        Check.due("nights ahead count", Check.run(x, "nights 2;snow 0 2"), 2);
        Check.due("its day", x.planned(0, 2), 11);
    }

    private static void dropsAndNights() {
        Check.says("drop is dropCleaning(I); nights is pass(N)");
        MirrorPlanner x = Check.withCrewAndMirrors(1, 12, 1);
        for (int i = 0; i < 12; i++) {
            x.addCleaning(0, 0, i);
        }
        Check.due("runOrders()", Check.run(x, "drop 11;drop 000;drop 04"), 3);
        Check.due("count(3)", x.count(3), 9);
        Check.due("planned(0, 2)", x.planned(0, 2), 1);
        Check.due("planned(4, 2)", x.planned(4, 2), 6);
        Check.due("planned(8, 2)", x.planned(8, 2), 10);
        Check.due("runOrders()", Check.run(x, "nights 60;nights 001;nights 2"), 3);
        Check.due("count(0)", x.count(0), 63);
        Check.due("what they lose counts", x.lost(0) > 0 ? 1 : 0, 1);
    }

    private static void dustOfOrders() {
        Check.says("dust is setDust() from the night that is A, to the night that is B nights after the present one, "
            + "with the rate R.");
        MirrorPlanner x = new MirrorPlanner();
        x.pass(5);
        Check.due("runOrders()", Check.run(x, "dust 0 59 500;dust 2 4 0;dust 59 59 7;nights 1;dust 0 0 9"), 5);
        int[] nights = {4, 5, 6, 7, 9, 10, 63, 64, 65};
        int[] rates = {20, 500, 9, 0, 0, 500, 500, 7, 20};
        for (int i = 0; i < nights.length; i++) {
            Check.due("night(" + nights[i] + ", 0)", x.night(nights[i], 0), rates[i]);
        }
        Check.due("no magnitude is told", x.clearPeriods(), 4);
        Check.passTo(x, 9990);
        Check.due("to night 9999", Check.run(x, "dust 9 9 8"), 1);
        Check.due("night(9999, 0)", x.night(9999, 0), 8);
        Check.due("to night 10000", Check.run(x, "dust 9 10 8"), 0);
        Check.due("its cause", x.failure(1), 12);
        Check.due("from night 10000", Check.run(x, "dust 10 10 8"), 0);
        Check.due("its cause", x.failure(1), 12);
    }

    private static void upToTheFirst() {
        Check.says("Carrying out goes order by order, up to the first one that fails: one whose method would return "
            + "an error.");
        MirrorPlanner x = Check.withCrewAndMirrors(1, 12, 1);
        Check.due("runOrders()", Check.run(x, "snow 0 5;nights 1;drop 3;nights 2;snow 0 9"), 2);
        Check.due("those ahead are carried out", x.count(0), 1);
        Check.due("and stay", x.planned(0, 2), 5);
        Check.due("none behind it is", x.count(3), 1);
        Check.due("failure(0)", x.failure(0), 2);
        Check.due("the last one fails", Check.run(x, "nights 1;nights 1;wash 0 0"), 2);
        Check.due("failure(0)", x.failure(0), 2);
        Check.due("the first one fails", Check.run(x, "wash 0 0;nights 1"), 0);
        Check.due("failure(0)", x.failure(0), 0);
        Check.due("count(0)", x.count(0), 3);
        Check.due("a loss of 0 is no error", Check.run(new MirrorPlanner(), "nights 1;nights 1"), 2);
        x.addCleaning(0, 0, 20);
        Check.due("a plan without cleanings is no error", Check.run(x, "drop 0;drop 0;nights 1"), 3);
    }

    private static void failed(MirrorPlanner x, String text, int order, int cause) {
        Check.due("runOrders() of '" + text + "'", Check.run(x, text), order);
        Check.due("failure(0) of '" + text + "'", x.failure(0), order);
        Check.due("failure(1) of '" + text + "'", x.failure(1), cause);
    }

    private static void causesOfRefusals() {
        Check.says("the cause is 1 to 5 for a refusal for this reason");
        MirrorPlanner x = Check.withCrewAndMirrors(1, 1, 2);
        failed(x, "wash 0 0", 0, 1);
        failed(x, "snow 0 0;snow 1 0", 1, 2);
        x.setHours(0, 0, 12);
        failed(x, "snow 0 1;snow 0 0", 1, 3);
        for (int i = 2; i < 11; i++) {
            x.addCleaning(0, 0, i);
        }
        failed(x, "snow 0 59;snow 0 58", 1, 4);
        for (int i = 0; i < 9; i++) {
            x.setDust(0, 0, 0);
        }
        failed(x, "dust 0 0 0;dust 0 0 0", 1, 5);
        x.clearPeriods();
        x.setMagnitude(0, 0, 0);
        Check.due("magnitudes do not count", Check.run(x, "dust 0 0 0;dust 0 0 0"), 2);
    }

    private static void causesOfErrors() {
        Check.says("11 for UNKNOWN and 12 for BAD_VALUE");
        MirrorPlanner x = Check.withCrewAndMirrors(1, 1, 3);
        failed(x, "snow 3 0", 0, 11);
        failed(x, "wash 3 0", 0, 11);
        failed(x, "coat 3 0", 0, 11);
        failed(x, "drop 0", 0, 11);
        failed(x, "snow 0 0;drop 1", 1, 11);
        failed(x, "dust 1 0 0", 0, 12);
        failed(x, "nights 1;nights 1;dust 59 58 0", 2, 12);
        for (int i = 0; i < 10; i++) {
            x.setDust(0, 0, 0);
        }
        failed(x, "dust 1 0 0", 0, 12);
        failed(x, "dust 1 1 0", 0, 5);
    }

    private static void reasonOfOrders() {
        Check.says("(also one of an order)");
        MirrorPlanner x = Check.withCrewAndMirrors(1, 1, 2);
        Check.run(x, "drop 0");
        Check.due("UNKNOWN sets no reason", x.count(5), 0);
        Check.run(x, "dust 1 0 0");
        Check.due("BAD_VALUE sets no reason", x.count(5), 0);
        Check.run(x, "wash 0 0");
        Check.due("a refusal sets it", x.count(5), 1);
        Check.run(x, "snow 0 0;snow 1 0");
        Check.due("a second one too", x.count(5), 2);
        Check.run(x, "nights 1");
        Check.due("it stays", x.count(5), 2);
        x.undo();
        x.undo();
        Check.due("also behind undo", x.count(5), 2);
    }

    private static void textStays() {
        Check.says("Carries out the orders of the text, which stays.");
        MirrorPlanner x = new MirrorPlanner();
        Check.due("runOrders()", Check.run(x, "nights 2"), 1);
        Check.due("once more", x.runOrders(), 1);
        Check.due("count(0)", x.count(0), 4);
        Check.due("typing goes on", x.type('0'), 9);
        Check.due("nights 20", x.runOrders(), 1);
        Check.due("count(0)", x.count(0), 24);
        Check.due("typing goes on", x.type('0'), 10);
        Check.due("nights 200", x.runOrders(), -107);
        Check.due("the text stays with a fault", x.clearText(), 10);
        Check.run(x, "drop 0");
        Check.due("the text stays with a failed order", x.clearText(), 6);
    }

    private static void oneAct() {
        Check.says("This is one act, also if the first order fails.");
        MirrorPlanner x = Check.withCrewAndMirrors(1, 1, 0);
        x.undo();
        x.undo();
        x.undo();
        x.undo();
        Check.due("states ahead of it", x.count(6), 2);
        Check.due("four orders", Check.run(x, "nights 1;nights 2;dust 0 0 9;nights 3"), 4);
        Check.due("one state", x.count(6), 3);
        Check.due("a failed first order", Check.run(x, "drop 0;nights 1"), 0);
        Check.due("one state", x.count(6), 4);
        Check.due("a failed second order", Check.run(x, "nights 7;drop 0"), 1);
        Check.due("one state", x.count(6), 5);
        Check.due("undo()", x.undo(), 4);
        Check.due("ahead of the last one", x.count(0), 6);
        Check.due("undo()", x.undo(), 3);
        Check.due("ahead of the failed first one", x.count(0), 6);
        Check.due("undo()", x.undo(), 2);
        Check.due("ahead of the four", x.count(0), 0);
        Check.due("their dust", x.night(3, 0), 20);
        x.addMirror(1, 1);
        Check.due("acts behind it are recorded", x.count(6), 3);
    }

    private static void numberOfOrders() {
        Check.says("Returns the number of orders that were carried out");
        MirrorPlanner x = Check.withCrewAndMirrors(1, 1, 1);
        for (int i = 0; i < 12; i++) {
            x.addCleaning(0, 0, i);
        }
        x.keep(0);
        Check.due("one", Check.run(x, "drop 0"), 1);
        Check.due("eleven of thirteen", Check.run(x, "drop 0;".repeat(12) + "drop 0"), 11);
        Check.due("failure(0)", x.failure(0), 11);
        x.restore(0);
        Check.due("twelve of thirteen", x.runOrders(), 12);
        Check.due("failure(0)", x.failure(0), 12);
        x.restore(0);
        Check.due("all twelve", Check.run(x, "drop 0;".repeat(11) + "drop 0"), 12);
        Check.due("failure(0)", x.failure(0), Check.NONE);
        Check.due("the plan is empty", x.count(3), 0);
    }

    private static void faultIsAnError() {
        Check.says("-100 minus the fault of the text if it has one (which is an error).");
        MirrorPlanner x = Check.withCrewAndMirrors(1, 1, 1);
        failed(x, "nights 1;drop 0", 1, 11);
        int states = x.count(6);
        Check.due("a fault behind good orders", Check.run(x, "nights 1;nights 2;night 3"), -118);
        Check.due("none is carried out", x.count(0), 1);
        Check.due("no state is recorded", x.count(6), states);
        Check.due("the failed order stays", x.failure(0), 1);
        Check.due("its cause stays", x.failure(1), 11);
        Check.due("a fault behind a refusal", Check.run(x, "wash 0 0;nights 0"), -116);
        Check.due("no reason", x.count(5), 0);
        Check.due("undo() is that of the orders ahead", x.undo(), states - 1);
        Check.due("count(0)", x.count(0), 0);
    }

    private static void latestRun() {
        Check.says("Tells of the latest runOrders() that returned no error.");
        MirrorPlanner x = Check.withCrewAndMirrors(1, 1, 1);
        failed(x, "nights 1;drop 0", 1, 11);
        failed(x, "nights 1;nights 1;dust 1 0 0", 2, 12);
        x.dropCleaning(0);
        x.addCleaning(0, 1, 0);
        x.clearText();
        Check.due("calls behind it leave the order", x.failure(0), 2);
        Check.due("and its cause", x.failure(1), 12);
        x.keep(0);
        x.undo();
        x.restore(0);
        Check.due("undo and snapshots leave the order", x.failure(0), 2);
        Check.due("and its cause", x.failure(1), 12);
        Check.due("all is carried out", Check.run(x, "nights 1"), 1);
        Check.due("no failed order", x.failure(0), Check.NONE);
        Check.due("no cause", x.failure(1), Check.NONE);
        x.undo();
        Check.due("nor behind undo", x.failure(0), Check.NONE);
    }

    private static void failureEdges() {
        Check.says("Returns the number; BAD_VALUE; NONE if no order failed (or there was no such call).");
        MirrorPlanner x = new MirrorPlanner();
        int[] bad = {-1, 2, MIN, MAX};
        for (int what : bad) {
            Check.due("failure(" + what + ") at first", x.failure(what), Check.BAD_VALUE);
        }
        Check.due("failure(0) at first", x.failure(0), Check.NONE);
        Check.due("failure(1) at first", x.failure(1), Check.NONE);
        x.runOrders();
        Check.due("failure(0) behind a fault", x.failure(0), Check.NONE);
        x.dropCleaning(0);
        Check.due("failure(1) behind an error", x.failure(1), Check.NONE);
        failed(x, "drop 0", 0, 11);
        for (int what : bad) {
            Check.due("failure(" + what + ")", x.failure(what), Check.BAD_VALUE);
        }
    }
}
