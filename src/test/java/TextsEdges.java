/** The edges that the terms on texts and promises 9 to 12 name. A test for each sentence. */
final class TextsEdges {
    private static final int UNKNOWN = -1;
    private static final int BAD_VALUE = -2;
    private static final int FULL = -3;
    private static final int NOT_POSSIBLE = -4;
    private static final int NONE = -5;

    private final Words words;

    TextsEdges(Words words) {
        this.words = words;
    }

    void all() {
        roomOfTheText();
        emptyAtFirst();
        oneOrMore();
        crossingOfAText();
        exitForgotten();
        entryForgotten();
        visaOfAText();
        daysOfAVisa();
        daysThatEnd();
        noZeroInFront();
        singleZero();
        digitTooMany();
        faultAtACharacter();
        faultAtTheEnd();
        type();
        clearText();
        perform();
        stopped();
    }

    private void says(String sentence) {
        words.say("Terms", sentence);
    }

    private void due(String call, long got, long want) {
        words.due(call, got, want);
    }

    /** The text is at fault there; nothing is done, and nothing is stopped by it. */
    private void fault(String text, int fault) {
        BorderStamps x = Ready.traveller();
        due("perform() of " + text, Due.perform(x, text), -100 - fault);
        due("stopped(0) behind " + text, x.stopped(0), NONE);
        due("count(0) behind " + text, x.count(0), 0);
        due("count(3) behind " + text, x.count(3), 0);
    }

    /** A traveller's text without a fault, of so many things, all of them done. */
    private BorderStamps done(String text, int things) {
        BorderStamps x = Ready.traveller();
        due("perform() of " + text, Due.perform(x, text), things);
        return x;
    }

    /** A text without a fault; its first thing is stopped by the error. */
    private void stops(String text, int error) {
        BorderStamps x = Ready.traveller();
        due("perform() of " + text, Due.perform(x, text), NOT_POSSIBLE);
        due("stopped(0) of " + text, x.stopped(0), 0);
        due("stopped(1) of " + text, x.stopped(1), error);
    }

    // ---- terms

    private void roomOfTheText() {
        says("There is a text of at most 60 characters");
        BorderStamps x = new BorderStamps();
        Due.write(x, ".1;".repeat(19) + ".1");
        due("count(11)", x.count(11), 59);
        due("type('2'), the 60th", x.type('2'), 60);
        due("type('3'), the 61st", x.type('3'), FULL);
        due("count(11)", x.count(11), 60);
        due("perform() of all 60", x.perform(), 20);
        due("count(0)", x.count(0), 31);
        BorderStamps y = new BorderStamps();
        Due.write(y, ".1;".repeat(20));
        due("type('.') behind 60", y.type('.'), FULL);
        due("perform(), which ends too early", y.perform(), -160);
        Due.write(y, ".1;".repeat(19) + ".12;");
        due("count(11), without the last one", y.count(11), 60);
        due("perform()", y.perform(), 20);
    }

    private void emptyAtFirst() {
        says("empty at first");
        BorderStamps x = new BorderStamps();
        due("count(11)", x.count(11), 0);
        due("perform()", x.perform(), -100);
        due("clearText()", x.clearText(), 0);
        due("type('.')", x.type('.'), 1);
    }

    private void oneOrMore() {
        says("one or more of these with \";\" between two");
        due("count(0)", done(".1", 1).count(0), 1);
        due("count(0)", done(".1;.2", 2).count(0), 3);
        due("count(0)", done(".1;.2;.3", 3).count(0), 6);
        fault(";", 0);
        fault(";.1", 0);
        fault(".1;", 3);
        fault(".1;;.2", 3);
        fault(".1.2", 2);
        fault(".1,.2", 2);
        fault(".1 ;.2", 2);
        fault("x01x00", 3);
        fault("v01:0-9*9v02:0-9*9", 9);
    }

    private void crossingOfAText() {
        says("\"x\", a passport (0 to 5), a country (0 to 5)");
        for (int number = 0; number < 6; number++) {
            stops("x" + number + "0", number == 0 ? -11 : UNKNOWN);
            BorderStamps x = Ready.sixHolders();
            x.grant(number, (number + 1) % 6, 0, 9, 9);
            due("perform()", Due.perform(x, "x" + number + (number + 1) % 6), 1);
            due("passport(" + number + ", 1)", x.passport(number, 1), (number + 1) % 6);
        }
        due("passport(0, 1)", done("x05", 1).passport(0, 1), 5);
        fault("x60", 1);
        fault("x90", 1);
        fault("x06", 2);
        fault("x09", 2);
        fault("x-1", 1);
        fault("X01", 0);
        fault("x 01", 1);
        fault("x0 1", 2);
        fault("x012", 3);
        fault("x0,1", 2);
    }

    private void exitForgotten() {
        says("and perhaps \"!\" (the exit is forgotten)");
        BorderStamps x = done("x01!", 1);
        due("passport(0, 3)", x.passport(0, 3), 1);
        due("stamp(0, 0, 2), the entry", x.stamp(0, 0, 2), 1);
        due("passport(0, 3) without it", done("x01", 1).passport(0, 3), 2);
        due("passport(0, 3), of the one before alone", done("x01!;x00", 2).passport(0, 3), 3);
        fault("x01!!", 4);
        fault("x0!1", 2);
        fault("x!01", 1);
        fault("!x01", 0);
        fault(".1!", 2);
        fault("v01:0-9*9!", 9);
    }

    private void entryForgotten() {
        says("and perhaps \"?\" (the entry is)");
        BorderStamps x = done("x01?", 1);
        due("passport(0, 3)", x.passport(0, 3), 1);
        due("stamp(0, 0, 2), the exit", x.stamp(0, 0, 2), 0);
        due("passport(0, 3), both", done("x01!?", 1).passport(0, 3), 0);
        due("count(9), both", done("x01!?", 1).count(9), 2);
        due("passport(0, 3), of the one before alone", done("x01?;x00", 2).passport(0, 3), 3);
        fault("x01??", 4);
        fault("x01?!", 4);
        fault("x01!?!", 5);
        fault("x01!??", 5);
        fault(".1?", 2);
        fault("v01:0-9*9?", 9);
    }

    private void visaOfAText() {
        says("\"v\", a passport, a country, \":\", a day, \"-\", a day (0 to 999)");
        BorderStamps x = done("v05:0-999*99", 1);
        due("visa(0, 5, 0)", x.visa(0, 5, 0), 0);
        due("visa(0, 5, 1)", x.visa(0, 5, 1), 999);
        due("visa(0, 5, 2)", x.visa(0, 5, 2), 99);
        due("visa(0, 4, 0)", done("v04:999-999*1", 1).visa(0, 4, 0), 999);
        due("visa(0, 4, 1)", done("v04:0-0*1", 1).visa(0, 4, 1), 0);
        due("visa(0, 4, 0)", done("v04:10-20*1", 1).visa(0, 4, 0), 10);
        stops("v50:0-0*1", UNKNOWN);
        stops("v00:0-0*1", NOT_POSSIBLE);
        stops("v01:1-0*1", BAD_VALUE);
        stops("v00:999-998*1", BAD_VALUE);
        fault("v61:0-9*9", 1);
        fault("v06:0-9*9", 2);
        fault("v01:1000-1000*9", 7);
        fault("v01:0-1000*9", 9);
        fault("v01;0-9*9", 3);
        fault("v01::0-9*9", 4);
        fault("v01:-9*9", 4);
        fault("v01:0--9*9", 6);
        fault("v01:0:9*9", 5);
        fault("v01:0-9-9", 7);
        fault("v01:0-9", 7);
        fault("V01:0-9*9", 0);
    }

    private void daysOfAVisa() {
        says("\"*\" and days (1 to 99: a visa is granted)");
        due("visa(0, 1, 2)", done("v01:0-9*1", 1).visa(0, 1, 2), 1);
        due("visa(0, 1, 2)", done("v01:0-9*99", 1).visa(0, 1, 2), 99);
        due("visa(0, 1, 2)", done("v01:0-9*10", 1).visa(0, 1, 2), 10);
        fault("v01:0-9*0", 8);
        fault("v01:0-9*100", 10);
        fault("v01:0-9*", 8);
        fault("v01:0-9**9", 8);
        fault("v01:0-9*-1", 8);
    }

    private void daysThatEnd() {
        says("\".\" and days (1 to 99: they end).");
        due("count(0)", done(".1", 1).count(0), 1);
        due("count(0)", done(".99", 1).count(0), 99);
        due("count(0)", done(".10", 1).count(0), 10);
        fault(".0", 1);
        fault(".100", 3);
        fault(".999", 3);
        fault("..1", 1);
        fault(".-1", 1);
        fault("1", 0);
        due("count(0), to the last day of all", done(".99;.99;.99;.99;.99;.99;.99;.99;.99;.99;.9", 11).count(0), 999);
    }

    private void noZeroInFront() {
        says("Numbers have no zero in front");
        fault(".01", 1);
        fault(".09", 1);
        fault("v01:00-9*9", 5);
        fault("v01:05-9*9", 5);
        fault("v01:0-00*9", 7);
        fault("v01:0-09*9", 7);
        fault("v01:0-9*09", 8);
        fault("v01:0-9*00", 8);
    }

    private void singleZero() {
        says("unless they are the single digit 0");
        due("visa(0, 1, 1)", done("v01:0-0*9", 1).visa(0, 1, 1), 0);
        due("passport(0, 1)", done("x01;x00", 2).passport(0, 1), 0);
        due("visa(0, 1, 0), zeros behind other digits", done("v01:100-900*10", 1).visa(0, 1, 0), 100);
    }

    private void digitTooMany() {
        says("a digit by which a number would be greater than told is not allowed");
        for (int days = 100; days < 1000; days++) {
            due("perform() of ." + days, Due.perform(new BorderStamps(), "." + days), -103);
            due("perform() of v01:0-9*" + days, Due.perform(new BorderStamps(), "v01:0-9*" + days), -110);
        }
        for (int day = 1000; day < 10000; day += 7) {
            due("perform() of v01:" + day, Due.perform(new BorderStamps(), "v01:" + day), -107);
            due("perform() of v01:0-" + day, Due.perform(new BorderStamps(), "v01:0-" + day), -109);
        }
        fault("v01:1000", 7);
        fault("v01:9999", 7);
        fault("v01:99999999999-9*9", 7);
        fault("v01:0-1000", 9);
        fault("v01:0-4294967296*9", 9);
        fault("v01:0-9*100", 10);
        fault("v01:0-9*999", 10);
        fault(".100", 3);
        fault(".990", 3);
        fault("x6", 1);
        fault("x06", 2);
        fault("x010", 3);
        stops("x10", UNKNOWN);
    }

    private void faultAtACharacter() {
        says("The fault of the text is the index, from 0, of the first character that is not allowed at its place");
        for (char character : new char[] {0, 1, ' ', '/', ':', 'X', 'w', 'y', 127, 128, 233, 256 + 'x', 0x661, 0xffff}) {
            fault(String.valueOf(character), 0);
            fault("." + character, 1);
            fault("x0" + character, 2);
            fault(".1" + character, 2);
            fault("v01:0" + character, 5);
        }
        fault("??", 0);
        fault("x??", 1);
        fault(".1;x01;v01:0-9*9;z;;;", 17);
        fault(".1;".repeat(19) + "..", 58);
        fault(".1;".repeat(18) + "x01!!;", 58);
        fault(".1;".repeat(19) + "x0", 59);
        fault(".1;".repeat(19) + ".1?", 59);
    }

    private void faultAtTheEnd() {
        says("or the length of the text if it ends too early (the empty text does)");
        String[] whole = {"x01!?;x00", "v01:10-20*10;.1", ".1;.2;x01"};
        int[] ends = {1, 2, 6, 7, 8};
        for (int end : ends) {
            fault(whole[0].substring(0, end), end);
        }
        for (int end : new int[] {0, 1, 2, 3, 4, 5, 6, 7, 8, 9, 10, 13, 14}) {
            fault(whole[1].substring(0, end), end);
        }
        for (int end : new int[] {0, 1, 3, 4, 6, 7, 8}) {
            fault(whole[2].substring(0, end), end);
        }
    }

    // ---- promises 9 and 10

    private void type() {
        words.say("Promise 9", "`character`: any character");
        BorderStamps x = new BorderStamps();
        char[] any = {0, '\n', ' ', '0', 'x', 127, 128, 255, 256, 0xd800, 0xffff};
        for (int i = 0; i < any.length; i++) {
            due("type((char) " + (int) any[i] + ")", x.type(any[i]), i + 1);
        }
        words.say("Promise 9", "Returns the length of the text then");
        for (int length = any.length + 1; length <= 60; length++) {
            due("type('.')", x.type('.'), length);
            due("count(11)", x.count(11), length);
        }
        words.say("Promise 9", "FULL if it has 60 characters");
        due("type('.')", x.type('.'), FULL);
        due("type((char) 0)", x.type((char) 0), FULL);
        due("count(11)", x.count(11), 60);
        due("clearText()", x.clearText(), 60);
        due("type('.') behind it", x.type('.'), 1);
    }

    private void clearText() {
        words.say("Promise 10", "Returns the length that it had");
        for (int length : new int[] {0, 1, 59, 60}) {
            BorderStamps x = new BorderStamps();
            Due.write(x, ".".repeat(length));
            due("clearText() of " + length, x.clearText(), length);
            due("clearText() of an empty one", x.clearText(), 0);
            due("count(11)", x.count(11), 0);
            due("perform(), of which nothing is left", x.perform(), -100);
            due("type('.')", x.type('.'), 1);
            due("perform()", x.perform(), -101);
        }
        nothingIsLeft();
    }

    private void nothingIsLeft() {
        words.say("Promise 10", "Empties the text.");
        BorderStamps x = Ready.traveller();
        String[] earlier = {".12", "x01!?", "x00;x01", "v01:100-200*30", ".1;.2"};
        String[] later = {".", "x", "x0", "v01:100-200*", ".1;."};
        for (int i = 0; i < earlier.length; i++) {
            Due.write(x, earlier[i]);
            due("perform() of " + later[i] + " behind " + earlier[i], Due.perform(x, later[i]), -100 - later[i].length());
        }
        Due.write(x, ".12");
        due("perform() of .1 behind .12", Due.perform(x, ".1"), 1);
        due("count(0)", x.count(0), 1);
        Due.write(x, "v01:10-20*30");
        due("perform() of v01:1-20*3", Due.perform(x, "v01:1-20*3"), 1);
        due("visa(0, 1, 0)", x.visa(0, 1, 0), 1);
        due("visa(0, 1, 2)", x.visa(0, 1, 2), 3);
        Due.write(x, "x01!?");
        due("perform() of x01 behind x01!?", Due.perform(x, "x01"), 1);
        due("passport(0, 3)", x.passport(0, 3), 2);
    }

    // ---- promise 11

    private void perform() {
        textStays();
        allOrNothing();
        asOneAct();
        anyErrorStops();
        howManyThings();
        faultOfTheText();
        notPossible();
    }

    private void textStays() {
        words.say("Promise 11", "Does all that the text tells, which stays, one after the other");
        BorderStamps x = done("v01:0-9*2;x01;.3;x00?", 4);
        due("count(11)", x.count(11), 21);
        due("count(4), as it was abroad by then", x.count(4), 1);
        due("passport(0, 2)", x.passport(0, 2), NONE);
        due("perform() again, the days are used", x.perform(), NOT_POSSIBLE);
        due("stopped(0)", x.stopped(0), 1);
        due("stopped(1)", x.stopped(1), -14);
        due("count(11) behind a stop", x.count(11), 21);
        due("type('!')", x.type('!'), 22);
        due("perform() of a fault", x.perform(), -121);
        due("count(11) behind a fault", x.count(11), 22);
    }

    private void allOrNothing() {
        words.say("Promise 11", "all of it, or nothing");
        BorderStamps x = Ready.busy();
        due("perform()", Due.perform(x, ".9;v14:0-9*9;x00!;v01:0-999*9;x01?;.99;x01"), NOT_POSSIBLE);
        due("stopped(0)", x.stopped(0), 6);
        due("stopped(1)", x.stopped(1), -11);
        BorderStamps y = Ready.busy();
        due("perform() of days alone", Due.perform(y, ".1;.1;.1;.1;.1;.1;x10"), NOT_POSSIBLE);
        due("count(0)", y.count(0), 5);
        Due.write(x, "");
        Due.write(y, "");
        words.holds("nothing of either is done, and no state is recorded", Ready.told(x).equals(Ready.told(y)));
    }

    private void asOneAct() {
        words.say("Promise 11", "This is one act.");
        BorderStamps x = Ready.traveller();
        x.undo();
        x.undo();
        due("count(10)", x.count(10), 2);
        due("perform()", Due.perform(x, ".1;.2;.3;x01;x00;.4"), 6);
        due("count(10)", x.count(10), 3);
        due("perform() of one thing", Due.perform(x, ".5"), 1);
        due("count(10)", x.count(10), 4);
        due("undo() of one thing", x.undo(), 3);
        due("count(0)", x.count(0), 10);
        due("undo() of six", x.undo(), 2);
        due("count(0)", x.count(0), 0);
        due("count(3)", x.count(3), 0);
    }

    private void anyErrorStops() {
        words.say("Promise 11", "What would return an error stops it.");
        stops("x10", UNKNOWN);
        stops("x00", -11);
        stops("v10:0-9*9", UNKNOWN);
        stops("v01:9-0*9", BAD_VALUE);
        stops("v00:0-9*9", NOT_POSSIBLE);
        BorderStamps x = Ready.onDay(Ready.traveller(), 990);
        due("perform()", Due.perform(x, ".9;.1"), NOT_POSSIBLE);
        due("stopped(0)", x.stopped(0), 1);
        due("stopped(1)", x.stopped(1), FULL);
        due("an answer of 0 stops nothing", done("x01!?;v02:0-9*9;.1", 3).count(3), 1);
    }

    private void howManyThings() {
        words.say("Promise 11", "Returns how many things the text has");
        for (int things = 1; things <= 20; things++) {
            done(".1" + ";.1".repeat(things - 1), things);
        }
    }

    private void faultOfTheText() {
        words.say("Promise 11", "-100 minus the fault of the text if it has one (which is an error)");
        BorderStamps x = Ready.traveller();
        due("perform() of an empty text", x.perform(), -100);
        due("perform(), the fault ahead of the stop", Due.perform(x, "x00;x00;y"), -108);
        due("stopped(1)", x.stopped(1), NONE);
        due("perform() of a full text", Due.perform(x, ".1;".repeat(20)), -160);
        due("count(0)", x.count(0), 0);
        due("count(10)", x.count(10), 4);
    }

    private void notPossible() {
        words.say("Promise 11", "NOT_POSSIBLE if any is stopped");
        due("the first", Due.perform(Ready.traveller(), "x00;.1;.1"), NOT_POSSIBLE);
        due("one in the middle", Due.perform(Ready.traveller(), ".1;x00;.1"), NOT_POSSIBLE);
        due("the last", Due.perform(Ready.traveller(), ".1;.1;x00"), NOT_POSSIBLE);
        due("all", Due.perform(Ready.traveller(), "x00;x00;x00"), NOT_POSSIBLE);
    }

    // ---- promise 12

    private void stopped() {
        laterOneDone();
        whatIsStopped();
        stopNumbers();
        stoppedBadValue();
        stoppedNone();
    }

    private void laterOneDone() {
        words.say("Promise 12", "Tells of the latest stop of perform() (also if a later one was done).");
        BorderStamps x = Ready.traveller();
        Due.perform(x, ".1;x00");
        due("perform(), which is done", Due.perform(x, ".1"), 1);
        due("stopped(0)", x.stopped(0), 1);
        due("stopped(1)", x.stopped(1), -11);
        due("perform(), which is stopped", Due.perform(x, ".1;.1;x30"), NOT_POSSIBLE);
        due("stopped(0), of the latest one", x.stopped(0), 2);
        due("stopped(1), of the latest one", x.stopped(1), UNKNOWN);
        due("cross(0, 0, 0), of which it tells nothing", x.cross(0, 0, 0), -11);
        due("stopped(1)", x.stopped(1), UNKNOWN);
        due("perform() of a fault, which is no stop", Due.perform(x, "?"), -100);
        due("stopped(0)", x.stopped(0), 2);
        due("stopped(1)", x.stopped(1), UNKNOWN);
    }

    private void whatIsStopped() {
        words.say("Promise 12", "`what`: 0 for its number in the text, from 0, 1 for the error");
        for (int number = 0; number < 20; number++) {
            BorderStamps x = new BorderStamps();
            Due.perform(x, ".1;".repeat(number) + "x0" + number % 6);
            due("stopped(0)", x.stopped(0), number);
            due("stopped(1)", x.stopped(1), UNKNOWN);
        }
        BorderStamps y = Ready.onDay(new BorderStamps(), 980);
        Due.perform(y, ".1;".repeat(19) + ".1");
        due("stopped(0), the last of 20", y.stopped(0), 19);
        due("stopped(1)", y.stopped(1), FULL);
    }

    private void stopNumbers() {
        words.say("Promise 12", "Returns the number");
        BorderStamps x = Ready.traveller();
        Due.perform(x, "x00");
        due("stopped(0), the first", x.stopped(0), 0);
        due("stopped(1)", x.stopped(1), -11);
        due("stopped(0), once more", x.stopped(0), 0);
        due("perform(), once more", x.perform(), NOT_POSSIBLE);
        due("stopped(0)", x.stopped(0), 0);
    }

    private void stoppedBadValue() {
        words.say("Promise 12", "BAD_VALUE");
        BorderStamps x = Ready.traveller();
        for (int what : new int[] {-1, 2, 3, 256, 1 << 16, Integer.MIN_VALUE, Integer.MAX_VALUE}) {
            due("stopped(" + what + ") ahead of NONE", x.stopped(what), BAD_VALUE);
        }
        Due.perform(x, "x00");
        due("stopped(2)", x.stopped(2), BAD_VALUE);
        due("stopped(-1)", x.stopped(-1), BAD_VALUE);
    }

    private void stoppedNone() {
        words.say("Promise 12", "NONE if nothing was stopped yet");
        BorderStamps x = Ready.traveller();
        due("stopped(0)", x.stopped(0), NONE);
        due("stopped(1)", x.stopped(1), NONE);
        due("perform() of a fault", x.perform(), -100);
        due("perform(), which is done", Due.perform(x, ".1"), 1);
        due("cross(0, 0, 0)", x.cross(0, 0, 0), -11);
        due("pass(0)", x.pass(0), BAD_VALUE);
        due("stopped(0)", x.stopped(0), NONE);
        due("stopped(1)", x.stopped(1), NONE);
    }
}
