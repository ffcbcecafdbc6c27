/** Each promise of the document by itself: ordinary inputs, the edges that it names, wrong inputs in the order of the checks. */
public final class PromisesTest {
    private static final int UNKNOWN = -1;
    private static final int BAD_VALUE = -2;
    private static final int FULL = -3;
    private static final int NOT_POSSIBLE = -4;
    private static final int NONE = -5;

    private static final Due DUE = new Due("PromisesTest");
    private static int promise;

    private static void due(String call, int got, int want) {
        DUE.is("promise " + promise + ": " + call, got, want);
    }

    public static void main(String[] args) {
        constants();
        newObject();
        issue();
        renew();
        grant();
        revoke();
        turnBorder();
        cross();
        crossRefused();
        pass();
        overstays();
        type();
        clearText();
        perform();
        faults();
        stopped();
        undo();
        keep();
        restore();
        passport();
        stamp();
        visa();
        reason();
        stay();
        wayTo();
        daysLeft();
        mistold();
        holders();
        count();
        DUE.end();
    }

    private static void constants() {
        promise = 0;
        due("UNKNOWN", BorderStamps.UNKNOWN, -1);
        due("BAD_VALUE", BorderStamps.BAD_VALUE, -2);
        due("FULL", BorderStamps.FULL, -3);
        due("NOT_POSSIBLE", BorderStamps.NOT_POSSIBLE, -4);
        due("NONE", BorderStamps.NONE, -5);
        due("REFUSED", BorderStamps.REFUSED, -10);
    }

    private static void newObject() {
        promise = 1;
        BorderStamps x = new BorderStamps();
        for (int what = 0; what < 12; what++) {
            due("count(" + what + ")", x.count(what), 0);
        }
        for (int passport = -1; passport < 7; passport++) {
            due("passport(" + passport + ", 0)", x.passport(passport, 0), UNKNOWN);
        }
        due("undo()", x.undo(), NONE);
        due("restore()", x.restore(), NONE);
        due("stopped(0)", x.stopped(0), NONE);
        due("stopped(1)", x.stopped(1), NONE);
        due("perform()", x.perform(), -100);
        due("mistold()", x.mistold(), 0);
        due("holders(0, false)", x.holders(0, false), 0);
        for (int home = 0; home < 6; home++) {
            x.issue(home);
        }
        for (int home = 0; home < 6; home++) {
            for (int country = 0; country < 6; country++) {
                due("reason(" + home + ", " + country + ")", x.reason(home, country), home == country ? 1 : 3);
            }
        }
        BorderStamps other = new BorderStamps();
        due("count(1) of another object", other.count(1), 0);
    }

    private static void issue() {
        promise = 2;
        BorderStamps x = new BorderStamps();
        due("issue(-1)", x.issue(-1), UNKNOWN);
        due("issue(6)", x.issue(6), UNKNOWN);
        due("count(10)", x.count(10), 0);
        due("issue(5)", x.issue(5), 0);
        due("count(10)", x.count(10), 1);
        due("passport(0, 0)", x.passport(0, 0), 5);
        due("passport(0, 1)", x.passport(0, 1), 5);
        due("passport(0, 2)", x.passport(0, 2), 5);
        due("passport(0, 3)", x.passport(0, 3), 0);
        due("passport(0, 5)", x.passport(0, 5), 0);
        due("passport(0, 7)", x.passport(0, 7), 1);
        due("passport(0, 8)", x.passport(0, 8), 0);
        due("passport(1, 0)", x.passport(1, 0), UNKNOWN);
        due("pass(3)", x.pass(3), 0);
        due("issue(0)", x.issue(0), 1);
        due("pass(2)", x.pass(2), 0);
        due("stay(0, 5, 0, 9, false)", x.stay(0, 5, 0, 9, false), 5);
        due("stay(1, 0, 0, 9, false)", x.stay(1, 0, 0, 9, false), 2);
        due("stay(1, 0, 0, 9, true)", x.stay(1, 0, 0, 9, true), 2);
        due("issue(5)", x.issue(5), 2);
        due("issue(5)", x.issue(5), 3);
        due("issue(5)", x.issue(5), 4);
        due("issue(5)", x.issue(5), 5);
        due("issue(5)", x.issue(5), FULL);
        due("issue(6)", x.issue(6), UNKNOWN);
        due("count(1)", x.count(1), 6);
        due("count(10)", x.count(10), 4);
        due("undo()", x.undo(), 3);
        due("issue(1)", x.issue(1), 5);
        due("passport(5, 0)", x.passport(5, 0), 1);
        issueBehindUndo();
    }

    /** Nothing of a passport that was undone comes back with the next one of its number. */
    private static void issueBehindUndo() {
        BorderStamps x = new BorderStamps();
        x.issue(0);
        due("perform()", Due.perform(x, "v01:0-1*1;x01?;.3"), 3);
        due("count(4)", x.count(4), 1);
        due("undo()", x.undo(), 1);
        due("undo()", x.undo(), 0);
        due("issue(2)", x.issue(2), 0);
        for (int what = 0; what < 9; what++) {
            int due = what < 3 ? 2 : what == 7 ? 1 : 0;
            due("passport(0, " + what + ")", x.passport(0, what), due);
        }
        due("visa(0, 1, 0)", x.visa(0, 1, 0), NONE);
    }

    private static void renew() {
        promise = 3;
        BorderStamps x = Ready.traveller();
        due("renew(-1)", x.renew(-1), UNKNOWN);
        due("renew(1)", x.renew(1), UNKNOWN);
        due("renew(6)", x.renew(6), UNKNOWN);
        due("renew(0)", x.renew(0), 0);
        due("passport(0, 7)", x.passport(0, 7), 2);
        due("cross(0, 1, 1)", x.cross(0, 1, 1), 1);
        due("pass(2)", x.pass(2), 0);
        due("visa(0, 1, 3)", x.visa(0, 1, 3), 2);
        due("passport(0, 4)", x.passport(0, 4), 1);
        int states = x.count(10);
        due("renew(0)", x.renew(0), 1);
        due("states", x.count(10), Math.min(states + 1, 4));
        due("passport(0, 3)", x.passport(0, 3), 0);
        due("passport(0, 4)", x.passport(0, 4), 0);
        due("passport(0, 2)", x.passport(0, 2), 1);
        due("passport(0, 5)", x.passport(0, 5), 1);
        due("passport(0, 7)", x.passport(0, 7), 3);
        due("visa(0, 1, 3)", x.visa(0, 1, 3), 0);
        due("stamp(0, 0, 0)", x.stamp(0, 0, 0), UNKNOWN);
        due("pass(1)", x.pass(1), 0);
        due("visa(0, 1, 3) by the day of the new book", x.visa(0, 1, 3), 1);
        due("stay(0, 1, 0, 9, true)", x.stay(0, 1, 0, 9, true), 1);
        due("stay(0, 1, 0, 9, false)", x.stay(0, 1, 0, 9, false), 3);
        due("cross(0, 0, 0) as a fit", x.cross(0, 0, 0), 2);
        due("passport(0, 4)", x.passport(0, 4), 0);
        due("cross(0, 2, 3)", x.cross(0, 2, 3), 2);
        due("renew(0)", x.renew(0), 2);
        due("passport(0, 2), where he really is", x.passport(0, 2), 2);
        due("mistold()", x.mistold(), 0);
    }

    private static void grant() {
        promise = 4;
        BorderStamps x = new BorderStamps();
        x.issue(2);
        due("grant(-1, 0, 0, 9, 9)", x.grant(-1, 0, 0, 9, 9), UNKNOWN);
        due("grant(1, 0, 9, 0, 0)", x.grant(1, 0, 9, 0, 0), UNKNOWN);
        due("grant(0, -1, 9, 0, 0)", x.grant(0, -1, 9, 0, 0), UNKNOWN);
        due("grant(0, 6, 0, 9, 9)", x.grant(0, 6, 0, 9, 9), UNKNOWN);
        due("grant(0, 1, -1, 9, 9)", x.grant(0, 1, -1, 9, 9), BAD_VALUE);
        due("grant(0, 1, 1000, 1000, 9)", x.grant(0, 1, 1000, 1000, 9), BAD_VALUE);
        due("grant(0, 1, 5, 4, 9)", x.grant(0, 1, 5, 4, 9), BAD_VALUE);
        due("grant(0, 1, 5, 1000, 9)", x.grant(0, 1, 5, 1000, 9), BAD_VALUE);
        due("grant(0, 1, 5, 9, 0)", x.grant(0, 1, 5, 9, 0), BAD_VALUE);
        due("grant(0, 1, 5, 9, 100)", x.grant(0, 1, 5, 9, 100), BAD_VALUE);
        due("grant(0, 2, 5, 4, 9)", x.grant(0, 2, 5, 4, 9), BAD_VALUE);
        due("grant(0, 2, 5, 9, 100)", x.grant(0, 2, 5, 9, 100), BAD_VALUE);
        due("grant(0, 2, 5, 9, 9)", x.grant(0, 2, 5, 9, 9), NOT_POSSIBLE);
        due("count(7)", x.count(7), 0);
        due("count(10)", x.count(10), 1);
        due("grant(0, 1, 0, 0, 1)", x.grant(0, 1, 0, 0, 1), 0);
        due("grant(0, 3, 999, 999, 99)", x.grant(0, 3, 999, 999, 99), 0);
        due("grant(0, 0, 0, 999, 50)", x.grant(0, 0, 0, 999, 50), 0);
        due("count(10)", x.count(10), 4);
        due("count(7)", x.count(7), 3);
        due("visa(0, 3, 0)", x.visa(0, 3, 0), 999);
        due("visa(0, 3, 1)", x.visa(0, 3, 1), 999);
        due("visa(0, 3, 2)", x.visa(0, 3, 2), 99);
        due("cross(0, 0, 0)", x.cross(0, 0, 0), 2);
        due("pass(6)", x.pass(6), 0);
        due("grant(0, 0, 2, 4, 5), of its span alone", x.grant(0, 0, 2, 4, 5), 3);
        due("count(7), in place of the one before", x.count(7), 3);
        due("visa(0, 0, 1)", x.visa(0, 0, 1), 4);
        due("grant(0, 0, 4, 20, 5), today not counted", x.grant(0, 0, 4, 20, 5), 2);
        due("grant(0, 0, 6, 20, 5)", x.grant(0, 0, 6, 20, 5), 0);
        due("grant(0, 1, 0, 20, 5), of another country", x.grant(0, 1, 0, 20, 5), 0);
    }

    private static void revoke() {
        promise = 5;
        BorderStamps x = Ready.traveller();
        due("revoke(-1, 1)", x.revoke(-1, 1), UNKNOWN);
        due("revoke(1, 1)", x.revoke(1, 1), UNKNOWN);
        due("revoke(0, -1)", x.revoke(0, -1), UNKNOWN);
        due("revoke(0, 6)", x.revoke(0, 6), UNKNOWN);
        due("revoke(0, 0), the home", x.revoke(0, 0), NONE);
        due("cross(0, 4, 0)", x.cross(0, 4, 0), 2);
        due("pass(3)", x.pass(3), 0);
        due("revoke(0, 4)", x.revoke(0, 4), 3);
        due("count(7)", x.count(7), 4);
        x.undo();
        x.undo();
        due("count(10)", x.count(10), 2);
        due("revoke(0, 4)", x.revoke(0, 4), 0);
        due("count(10), an act", x.count(10), 3);
        due("revoke(0, 4)", x.revoke(0, 4), NONE);
        due("count(10), no act", x.count(10), 3);
        due("visa(0, 4, 0)", x.visa(0, 4, 0), NONE);
        due("cross(0, 0, 0)", x.cross(0, 0, 0), 4);
        due("reason(0, 4)", x.reason(0, 4), 3);
        due("visa(0, 3, 1), which stays", x.visa(0, 3, 1), 999);
    }

    private static void turnBorder() {
        promise = 6;
        BorderStamps x = Ready.traveller();
        due("turnBorder(-1, 0)", x.turnBorder(-1, 0), UNKNOWN);
        due("turnBorder(0, 6)", x.turnBorder(0, 6), UNKNOWN);
        due("turnBorder(6, 6)", x.turnBorder(6, 6), UNKNOWN);
        due("turnBorder(-1, -1)", x.turnBorder(-1, -1), UNKNOWN);
        due("turnBorder(3, 3)", x.turnBorder(3, 3), BAD_VALUE);
        x.undo();
        due("count(10)", x.count(10), 3);
        int closed = 0;
        for (int country = 0; country < 6; country++) {
            for (int other = country + 1; other < 6; other++) {
                due("turnBorder(" + other + ", " + country + ")", x.turnBorder(other, country), ++closed);
            }
        }
        due("count(10)", x.count(10), 4);
        due("count(2)", x.count(2), 15);
        due("reason(0, 4)", x.reason(0, 4), 2);
        due("turnBorder(0, 4)", x.turnBorder(0, 4), 14);
        due("reason(0, 4)", x.reason(0, 4), 0);
        due("reason(0, 3)", x.reason(0, 3), 2);
        due("turnBorder(4, 0)", x.turnBorder(4, 0), 15);
        due("turnBorder(4, 5)", x.turnBorder(4, 5), 14);
    }

    private static void cross() {
        promise = 7;
        BorderStamps x = Ready.traveller();
        due("cross(0, 1, 0)", x.cross(0, 1, 0), 2);
        dueStamp(x, 0, 0, 0, 0);
        dueStamp(x, 1, 0, 1, 1);
        due("passport(0, 1)", x.passport(0, 1), 1);
        due("pass(4)", x.pass(4), 0);
        due("cross(0, 2, 1)", x.cross(0, 2, 1), 3);
        dueStamp(x, 2, 4, 2, 1);
        due("count(9)", x.count(9), 1);
        due("cross(0, 3, 2)", x.cross(0, 3, 2), 4);
        dueStamp(x, 3, 4, 2, 0);
        due("count(9)", x.count(9), 2);
        due("cross(0, 4, 3)", x.cross(0, 4, 3), 4);
        due("count(9)", x.count(9), 4);
        due("passport(0, 1)", x.passport(0, 1), 4);
        due("passport(0, 5)", x.passport(0, 5), 4);
        due("stamp(0, 4, 0)", x.stamp(0, 4, 0), UNKNOWN);
        x.undo();
        due("passport(0, 1)", x.passport(0, 1), 3);
        due("cross(0, 0, 0), home without a visa", x.cross(0, 0, 0), 6);
        dueStamp(x, 4, 4, 3, 0);
        dueStamp(x, 5, 4, 0, 1);
    }

    private static void dueStamp(BorderStamps x, int rank, int day, int country, int entry) {
        due("stamp(0, " + rank + ", 0)", x.stamp(0, rank, 0), day);
        due("stamp(0, " + rank + ", 1)", x.stamp(0, rank, 1), country);
        due("stamp(0, " + rank + ", 2)", x.stamp(0, rank, 2), entry);
    }

    private static void crossRefused() {
        promise = 7;
        BorderStamps x = Ready.traveller();
        due("cross(-1, 1, 0)", x.cross(-1, 1, 0), UNKNOWN);
        due("cross(1, 1, 4)", x.cross(1, 1, 4), UNKNOWN);
        due("cross(0, -1, 4)", x.cross(0, -1, 4), UNKNOWN);
        due("cross(0, 6, 0)", x.cross(0, 6, 0), UNKNOWN);
        due("cross(0, 0, -1)", x.cross(0, 0, -1), BAD_VALUE);
        due("cross(0, 0, 4)", x.cross(0, 0, 4), BAD_VALUE);
        due("cross(0, 0, 0)", x.cross(0, 0, 0), -11);
        x.turnBorder(0, 1);
        x.revoke(0, 1);
        due("cross(0, 1, 0)", x.cross(0, 1, 0), -12);
        x.turnBorder(0, 1);
        due("cross(0, 1, 0)", x.cross(0, 1, 0), -13);
        x.grant(0, 1, 0, 99, 1);
        x.cross(0, 1, 0);
        x.pass(1);
        x.cross(0, 0, 0);
        due("cross(0, 1, 0)", x.cross(0, 1, 0), -14);
        due("cross(0, 1, 3)", x.cross(0, 1, 3), -14);
        due("count(3)", x.count(3), 2);
        due("count(5)", x.count(5), 4);
        bookWithoutRoom();
        sixtyCrossings();
    }

    private static void bookWithoutRoom() {
        BorderStamps x = Ready.traveller();
        for (int i = 0; i < 7; i++) {
            due("cross", x.cross(0, i % 2 == 0 ? 1 : 0, 0), 2 * i + 2);
        }
        due("reason(0, 0) with 14 stamps", x.reason(0, 0), 0);
        due("cross(0, 0, 1)", x.cross(0, 0, 1), 15);
        due("reason(0, 1) with 15 stamps", x.reason(0, 1), 5);
        due("cross(0, 1, 0)", x.cross(0, 1, 0), -15);
        due("cross(0, 1, 3)", x.cross(0, 1, 3), 15);
        due("cross(0, 2, 2)", x.cross(0, 2, 2), 16);
        due("cross(0, 1, 1)", x.cross(0, 1, 1), -15);
        due("cross(0, 1, 2)", x.cross(0, 1, 2), -15);
        due("cross(0, 1, 3)", x.cross(0, 1, 3), 16);
        due("count(9)", x.count(9), 6);
        due("renew(0)", x.renew(0), 16);
        due("reason(0, 2)", x.reason(0, 2), 0);
    }

    private static void sixtyCrossings() {
        BorderStamps x = Ready.traveller();
        for (int i = 0; i < 59; i++) {
            due("cross " + i, x.cross(0, i % 2 == 0 ? 1 : 0, 3), 0);
        }
        due("reason(0, 0) behind 59 crossings", x.reason(0, 0), 0);
        due("pass(1)", x.pass(1), 0);
        due("cross(0, 0, 0)", x.cross(0, 0, 0), 2);
        due("passport(0, 5)", x.passport(0, 5), 60);
        due("reason(0, 1)", x.reason(0, 1), 6);
        due("cross(0, 1, 3)", x.cross(0, 1, 3), -16);
        due("renew(0)", x.renew(0), 2);
        due("cross(0, 1, 0)", x.cross(0, 1, 0), -16);
        due("wayTo(0, 1)", x.wayTo(0, 1), 1);
        due("pass(1)", x.pass(1), 0);
        due("stay(0, 1, 0, 9, false)", x.stay(0, 1, 0, 9, false), 1);
        due("stay(0, 0, 0, 9, false)", x.stay(0, 0, 0, 9, false), 1);
        due("undo()", x.undo(), 3);
        due("undo()", x.undo(), 2);
        due("undo()", x.undo(), 1);
        due("passport(0, 5)", x.passport(0, 5), 59);
    }

    private static void pass() {
        promise = 8;
        BorderStamps x = new BorderStamps();
        due("pass(0)", x.pass(0), BAD_VALUE);
        due("pass(-1)", x.pass(-1), BAD_VALUE);
        due("pass(100)", x.pass(100), BAD_VALUE);
        due("pass(1)", x.pass(1), 0);
        due("count(0)", x.count(0), 1);
        due("count(10)", x.count(10), 1);
        for (int i = 0; i < 10; i++) {
            due("pass(99)", x.pass(99), 0);
        }
        due("count(0)", x.count(0), 991);
        due("pass(9)", x.pass(9), FULL);
        due("pass(100)", x.pass(100), BAD_VALUE);
        due("pass(8)", x.pass(8), 0);
        due("count(0)", x.count(0), 999);
        due("pass(1)", x.pass(1), FULL);
        due("pass(0)", x.pass(0), BAD_VALUE);
        due("count(0)", x.count(0), 999);
        due("undo()", x.undo(), 3);
        due("count(0)", x.count(0), 991);
    }

    private static void overstays() {
        BorderStamps x = Ready.traveller();
        x.issue(5);
        x.grant(0, 1, 2, 6, 3);
        due("cross(0, 1, 0) ahead of its span", x.cross(0, 1, 0), -13);
        x.pass(2);
        due("cross(0, 1, 0)", x.cross(0, 1, 0), 2);
        due("pass(3), the days of the visa", x.pass(3), 0);
        due("pass(2), its span without its days", x.pass(2), 2);
        due("pass(3), behind its span", x.pass(3), 3);
        due("count(4)", x.count(4), 5);
        due("passport(0, 6)", x.passport(0, 6), 5);
        due("passport(1, 6)", x.passport(1, 6), 0);
        x.grant(0, 1, 0, 999, 99);
        due("pass(9)", x.pass(9), 0);
        x.revoke(0, 1);
        due("pass(4) without a visa", x.pass(4), 4);
        due("cross(0, 0, 3)", x.cross(0, 0, 3), 2);
        due("pass(2) at home, told to be in 1", x.pass(2), 0);
        BorderStamps y = Ready.traveller();
        y.grant(0, 1, 0, 20, 1);
        y.cross(0, 1, 2);
        due("pass(9), of which no stamp tells", y.pass(9), 0);
        due("pass(20), by the span alone", y.pass(20), 8);
        BorderStamps z = Ready.traveller();
        z.grant(0, 1, 0, 9, 4);
        z.cross(0, 1, 0);
        due("pass(4), to the visa's last day but some", z.pass(4), 0);
        due("pass(1)", z.pass(1), 1);
        z.renew(0);
        due("pass(4), told by the new book alone", z.pass(4), 0);
        due("pass(1)", z.pass(1), 1);
        due("count(4)", z.count(4), 2);
    }

    private static void type() {
        promise = 9;
        BorderStamps x = new BorderStamps();
        due("type((char) 0)", x.type((char) 0), 1);
        due("type((char) 65535)", x.type((char) 65535), 2);
        for (int length = 3; length <= 60; length++) {
            due("type('x')", x.type('x'), length);
        }
        due("type('x')", x.type('x'), FULL);
        due("count(11)", x.count(11), 60);
        due("count(10), no act", x.count(10), 0);
        due("clearText()", x.clearText(), 60);
        StringBuilder longest = new StringBuilder();
        for (int i = 0; i < 19; i++) {
            longest.append(".1;");
        }
        Due.write(x, longest.append(".12").toString());
        due("type('3')", x.type('3'), FULL);
        due("perform()", x.perform(), 20);
        due("count(0)", x.count(0), 31);
    }

    private static void clearText() {
        promise = 10;
        BorderStamps x = new BorderStamps();
        due("clearText()", x.clearText(), 0);
        Due.write(x, ".5");
        due("clearText()", x.clearText(), 2);
        due("clearText()", x.clearText(), 0);
        due("count(11)", x.count(11), 0);
        due("perform()", x.perform(), -100);
        due("type('.')", x.type('.'), 1);
        due("perform()", x.perform(), -101);
        due("count(10)", x.count(10), 0);
    }

    private static void perform() {
        promise = 11;
        BorderStamps x = new BorderStamps();
        x.issue(0);
        due("all three things", Due.perform(x, "v01:0-9*3;x01;.2;x00?"), 4);
        due("count(10), one act", x.count(10), 2);
        due("count(11), which stays", x.count(11), 21);
        due("passport(0, 1)", x.passport(0, 1), 0);
        due("passport(0, 2)", x.passport(0, 2), NONE);
        due("passport(0, 3)", x.passport(0, 3), 3);
        due("visa(0, 1, 1)", x.visa(0, 1, 1), 9);
        due("visa(0, 1, 2)", x.visa(0, 1, 2), 3);
        due("visa(0, 1, 3)", x.visa(0, 1, 3), 2);
        due("count(0)", x.count(0), 2);
        due("undo() of all", x.undo(), 1);
        due("count(0)", x.count(0), 0);
        due("count(7)", x.count(7), 0);
        due("perform() again", x.perform(), 4);
        due("count(0)", x.count(0), 2);
        due("!", Due.perform(x, "x01!"), 1);
        due("passport(0, 3)", x.passport(0, 3), 4);
        due("stamp(0, 3, 2)", x.stamp(0, 3, 2), 1);
        due("!?", Due.perform(x, "x00!?"), 1);
        due("passport(0, 3)", x.passport(0, 3), 4);
        due("count(9)", x.count(9), 4);
        due("the flags of the thing ahead are gone", Due.perform(x, "x01!?;x00"), 2);
        due("passport(0, 3)", x.passport(0, 3), 6);
        due("count(9)", x.count(9), 6);
        due("a stop behind two things", Due.perform(x, ".1;v02:0-999*99;x03;.5"), NOT_POSSIBLE);
        due("count(0)", x.count(0), 2);
        due("count(7)", x.count(7), 1);
        due("count(10)", x.count(10), 4);
        due("passport(0, 3)", x.passport(0, 3), 6);
        due("many days", Due.perform(x, "v02:0-999*1;x02;.99"), 3);
        due("count(4)", x.count(4), 98);
        due("5 is a passport of a text", Due.perform(x, "x50"), NOT_POSSIBLE);
        due("the latest state", x.undo(), 3);
        due("count(4)", x.count(4), 0);
    }

    private static void faults() {
        promise = 11;
        fault("", 0);
        fault("y", 0);
        fault("X01", 0);
        fault(";x01", 0);
        fault(" x01", 0);
        fault("x", 1);
        fault("x6", 1);
        fault("x!", 1);
        fault("x0", 2);
        fault("x06", 2);
        fault("x0/", 2);
        fault("x0:", 2);
        fault("x010", 3);
        fault("x01 ", 3);
        fault("x01!!", 4);
        fault("x01?!", 4);
        fault("x01??", 4);
        fault("x01!?!", 5);
        fault("x01;", 4);
        fault("x01;;", 4);
        fault("x01!;", 5);
        fault("x01?;y", 5);
        fault("x01;x", 5);
        fault("v", 1);
        fault("v6", 1);
        fault("v06", 2);
        fault("v01", 3);
        fault("v01!", 3);
        fault("v01:", 4);
        fault("v01:-", 4);
        fault("v01:00", 5);
        fault("v01:01", 5);
        fault("v01:1000", 7);
        fault("v01:999", 7);
        fault("v01:9999", 7);
        fault("v01:99", 6);
        fault("v01:99*", 6);
        fault("v01:0-", 6);
        fault("v01:0--", 6);
        fault("v01:0-09", 7);
        fault("v01:0-1000*1", 9);
        fault("v01:0-999", 9);
        fault("v01:0-999-", 9);
        fault("v01:0-0*", 8);
        fault("v01:0-0*0", 8);
        fault("v01:0-0*100", 10);
        fault("v01:0-0*99?", 10);
        fault("v01:0-0*1;", 10);
        fault(".", 1);
        fault(".0", 1);
        fault(".x", 1);
        fault(".100", 3);
        fault(".5;", 3);
        fault(".5;.0", 4);
        fault(".5!", 2);
        fault(".5\u0000", 2);
        fault(".\u0661", 1);
        fault(".1;.2;.3;.4;.5;.6;.7;.8;.9;.1;.2;.3;.4;.5;.6;.7;.8;.9;.1;.", 58);
        fault(".1;.2;.3;.4;.5;.6;.7;.8;.9;.1;.2;.3;.4;.5;.6;.7;.8;.9;.1;.2;", 60);
        sound("x05", NOT_POSSIBLE);
        sound("x55!?", NOT_POSSIBLE);
        sound("v55:0-0*1", NOT_POSSIBLE);
        sound("v00:999-998*99", NOT_POSSIBLE);
        sound(".99;.10;.9", 3);
        sound(".99;.99;.99;.99;.99;.99;.99;.99;.99;.99;.9", 11);
        sound(".99;.99;.99;.99;.99;.99;.99;.99;.99;.99;.10", NOT_POSSIBLE);
    }

    private static void fault(String text, int fault) {
        BorderStamps x = Ready.traveller();
        due("perform() of " + text, Due.perform(x, text), -100 - fault);
        due("stopped(0) of " + text, x.stopped(0), NONE);
        due("count(11) of " + text, x.count(11), text.length());
        due("count(0) of " + text, x.count(0), 0);
        due("count(3) of " + text, x.count(3), 0);
    }

    private static void sound(String text, int answer) {
        due("perform() of " + text, Due.perform(new BorderStamps(), text), answer);
    }

    private static void stopped() {
        promise = 12;
        BorderStamps x = new BorderStamps();
        due("stopped(-1)", x.stopped(-1), BAD_VALUE);
        due("stopped(2)", x.stopped(2), BAD_VALUE);
        due("stopped(0)", x.stopped(0), NONE);
        due("stopped(1)", x.stopped(1), NONE);
        x.issue(0);
        dueStop(x, "x10", 0, UNKNOWN);
        dueStop(x, ".1;v10:0-9*9", 1, UNKNOWN);
        dueStop(x, ".1;.2;v01:1-0*9;.5", 2, BAD_VALUE);
        dueStop(x, "v00:0-9*9", 0, NOT_POSSIBLE);
        dueStop(x, ".99;.99;.99;.99;.99;.99;.99;.99;.99;.99;.10", 10, FULL);
        dueStop(x, "x00", 0, -11);
        dueStop(x, "x01", 0, -13);
        dueStop(x, "v01:0-9*1;x01;.1;x00;x01", 4, -14);
        x.turnBorder(0, 1);
        dueStop(x, "v01:0-9*1;x01", 1, -12);
        due("a later one that was done", Due.perform(x, ".1"), 1);
        due("stopped(0)", x.stopped(0), 1);
        due("stopped(1)", x.stopped(1), -12);
        due("a fault", Due.perform(x, "?"), -100);
        due("stopped(1)", x.stopped(1), -12);
        x.undo();
        x.keep();
        x.restore();
        x.clearText();
        due("stopped(0)", x.stopped(0), 1);
        due("stopped(1)", x.stopped(1), -12);
        due("stopped(2)", x.stopped(2), BAD_VALUE);
        due("cross(0, 0, 0)", x.cross(0, 0, 0), -11);
        due("stopped(1), of perform() alone", x.stopped(1), -12);
    }

    private static void dueStop(BorderStamps x, String text, int number, int error) {
        int states = x.count(10);
        due("perform() of " + text, Due.perform(x, text), NOT_POSSIBLE);
        due("stopped(0) of " + text, x.stopped(0), number);
        due("stopped(1) of " + text, x.stopped(1), error);
        due("count(0) behind " + text, x.count(0), 0);
        due("count(7) behind " + text, x.count(7), 0);
        due("count(10) behind " + text, x.count(10), states);
    }

    private static void undo() {
        promise = 13;
        BorderStamps x = new BorderStamps();
        due("undo()", x.undo(), NONE);
        x.issue(3);
        due("undo()", x.undo(), 0);
        due("count(1)", x.count(1), 0);
        due("undo()", x.undo(), NONE);
        x.issue(3);
        x.grant(0, 1, 0, 99, 9);
        x.cross(0, 1, 1);
        x.pass(20);
        x.turnBorder(1, 2);
        x.renew(0);
        due("count(10)", x.count(10), 4);
        due("passport(0, 7)", x.passport(0, 7), 2);
        due("undo() of renew", x.undo(), 3);
        due("passport(0, 7)", x.passport(0, 7), 1);
        due("passport(0, 3)", x.passport(0, 3), 1);
        due("stamp(0, 0, 1)", x.stamp(0, 0, 1), 1);
        due("undo() of turnBorder", x.undo(), 2);
        due("count(2)", x.count(2), 0);
        due("count(4)", x.count(4), 11);
        due("undo() of pass", x.undo(), 1);
        due("count(0)", x.count(0), 0);
        due("count(4)", x.count(4), 0);
        due("undo() of cross", x.undo(), 0);
        due("passport(0, 1)", x.passport(0, 1), 3);
        due("count(3)", x.count(3), 0);
        due("count(9)", x.count(9), 0);
        due("undo(), the older ones are dropped", x.undo(), NONE);
        due("visa(0, 1, 2)", x.visa(0, 1, 2), 9);
        x.revoke(0, 1);
        x.type('q');
        due("undo() of revoke", x.undo(), 0);
        due("visa(0, 1, 2)", x.visa(0, 1, 2), 9);
        due("count(11), the text stays", x.count(11), 1);
        due("cross(0, 2, 0), no act", x.cross(0, 2, 0), -13);
        due("undo()", x.undo(), NONE);
    }

    private static void keep() {
        promise = 14;
        BorderStamps x = new BorderStamps();
        due("keep()", x.keep(), 0);
        due("count(10), no act", x.count(10), 0);
        x.pass(7);
        due("keep()", x.keep(), 7);
        x.pass(5);
        due("restore(), in place of the one that was", x.restore(), 7);
        due("undo()", x.undo(), 2);
        due("undo()", x.undo(), 1);
        due("undo()", x.undo(), 0);
        due("count(0)", x.count(0), 0);
        due("restore(), which undo() leaves", x.restore(), 7);
    }

    private static void restore() {
        promise = 15;
        BorderStamps x = Ready.traveller();
        due("restore()", x.restore(), NONE);
        due("count(10)", x.count(10), 4);
        x.undo();
        due("cross(0, 1, 1)", x.cross(0, 1, 1), 1);
        x.turnBorder(3, 4);
        x.keep();
        x.pass(9);
        x.cross(0, 2, 0);
        x.renew(0);
        x.issue(5);
        x.turnBorder(0, 1);
        x.type('a');
        due("restore()", x.restore(), 0);
        due("count(0)", x.count(0), 0);
        due("count(1)", x.count(1), 1);
        due("count(2)", x.count(2), 1);
        due("count(3)", x.count(3), 1);
        due("count(9)", x.count(9), 1);
        due("count(11), the text stays", x.count(11), 1);
        due("passport(0, 4)", x.passport(0, 4), 1);
        due("passport(0, 7)", x.passport(0, 7), 1);
        due("stamp(0, 0, 1)", x.stamp(0, 0, 1), 1);
        due("count(10), an act", x.count(10), 4);
        due("undo()", x.undo(), 3);
        due("count(0)", x.count(0), 9);
        due("count(1)", x.count(1), 2);
        due("restore(), which stays", x.restore(), 0);
        due("restore(), also twice", x.restore(), 0);
        due("undo()", x.undo(), 3);
        due("undo()", x.undo(), 2);
        due("count(1)", x.count(1), 2);
    }

    private static void passport() {
        promise = 16;
        BorderStamps x = Ready.traveller();
        due("passport(-1, 0)", x.passport(-1, 0), UNKNOWN);
        due("passport(1, 9)", x.passport(1, 9), UNKNOWN);
        due("passport(0, -1)", x.passport(0, -1), BAD_VALUE);
        due("passport(0, 9)", x.passport(0, 9), BAD_VALUE);
        x.revoke(0, 5);
        x.grant(0, 1, 0, 5, 9);
        x.cross(0, 2, 1);
        x.cross(0, 1, 2);
        x.pass(8);
        x.renew(0);
        x.cross(0, 3, 1);
        x.cross(0, 4, 2);
        x.cross(0, 1, 3);
        due("passport(0, 0)", x.passport(0, 0), 0);
        due("passport(0, 1)", x.passport(0, 1), 4);
        due("passport(0, 2)", x.passport(0, 2), NONE);
        due("passport(0, 3)", x.passport(0, 3), 2);
        due("passport(0, 4)", x.passport(0, 4), 1);
        due("passport(0, 5)", x.passport(0, 5), 4);
        due("passport(0, 6)", x.passport(0, 6), 2);
        due("passport(0, 7)", x.passport(0, 7), 2);
        due("passport(0, 8)", x.passport(0, 8), 4);
    }

    private static void stamp() {
        promise = 17;
        BorderStamps x = Ready.traveller();
        due("stamp(0, 0, 0)", x.stamp(0, 0, 0), UNKNOWN);
        x.cross(0, 1, 1);
        due("stamp(-1, 0, 0)", x.stamp(-1, 0, 0), UNKNOWN);
        due("stamp(1, 0, 5)", x.stamp(1, 0, 5), UNKNOWN);
        due("stamp(0, -1, 5)", x.stamp(0, -1, 5), UNKNOWN);
        due("stamp(0, 1, 5)", x.stamp(0, 1, 5), UNKNOWN);
        due("stamp(0, 0, 5)", x.stamp(0, 0, 5), BAD_VALUE);
        due("stamp(0, 0, -1)", x.stamp(0, 0, -1), BAD_VALUE);
        due("stamp(0, 0, 3), an entry, told to be at home", x.stamp(0, 0, 3), 1);
        x.cross(0, 2, 2);
        due("stamp(0, 1, 3), an exit as told", x.stamp(0, 1, 3), 0);
        x.pass(3);
        x.cross(0, 3, 2);
        due("stamp(0, 2, 3), an exit, told to be nowhere", x.stamp(0, 2, 3), 1);
        x.cross(0, 4, 1);
        due("stamp(0, 3, 3), an entry, told to be nowhere", x.stamp(0, 3, 3), 0);
        x.cross(0, 5, 3);
        x.cross(0, 4, 2);
        due("stamp(0, 4, 3), an exit of another country", x.stamp(0, 4, 3), 1);
        due("stamp(0, 4, 1)", x.stamp(0, 4, 1), 5);
        x.cross(0, 0, 1);
        x.cross(0, 1, 3);
        x.cross(0, 0, 1);
        due("stamp(0, 6, 3), an entry into where he is told to be", x.stamp(0, 6, 3), 1);
        due("passport(0, 4)", x.passport(0, 4), 4);
        due("stamp(0, 1, 0)", x.stamp(0, 1, 0), 0);
        due("stamp(0, 2, 0)", x.stamp(0, 2, 0), 3);
        x.renew(0);
        for (int i = 0; i < 8; i++) {
            x.cross(0, i % 2 == 0 ? 1 : 0, 0);
        }
        for (int rank = 0; rank < 16; rank++) {
            due("stamp(0, " + rank + ", 4)", x.stamp(0, rank, 4), rank / 4);
            due("stamp(0, " + rank + ", 2)", x.stamp(0, rank, 2), rank % 2);
            due("stamp(0, " + rank + ", 3)", x.stamp(0, rank, 3), 0);
        }
        due("stamp(0, 16, 4)", x.stamp(0, 16, 4), UNKNOWN);
    }

    private static void visa() {
        promise = 18;
        BorderStamps x = new BorderStamps();
        x.issue(0);
        due("visa(-1, 1, 0)", x.visa(-1, 1, 0), UNKNOWN);
        due("visa(1, 1, 5)", x.visa(1, 1, 5), UNKNOWN);
        due("visa(0, 6, 5)", x.visa(0, 6, 5), UNKNOWN);
        due("visa(0, -1, 0)", x.visa(0, -1, 0), UNKNOWN);
        due("visa(0, 1, 5)", x.visa(0, 1, 5), BAD_VALUE);
        due("visa(0, 1, -1)", x.visa(0, 1, -1), BAD_VALUE);
        due("visa(0, 1, 4)", x.visa(0, 1, 4), NONE);
        due("visa(0, 0, 4)", x.visa(0, 0, 4), NONE);
        x.grant(0, 1, 3, 8, 2);
        due("visa(0, 1, 0)", x.visa(0, 1, 0), 3);
        due("visa(0, 1, 1)", x.visa(0, 1, 1), 8);
        due("visa(0, 1, 2)", x.visa(0, 1, 2), 2);
        due("visa(0, 1, 3)", x.visa(0, 1, 3), 0);
        due("visa(0, 1, 4)", x.visa(0, 1, 4), 0);
        x.pass(2);
        due("visa(0, 1, 4) on day 2", x.visa(0, 1, 4), 0);
        x.pass(1);
        due("visa(0, 1, 4) on day 3", x.visa(0, 1, 4), 1);
        x.cross(0, 1, 0);
        due("visa(0, 1, 3), today not counted", x.visa(0, 1, 3), 0);
        x.pass(5);
        due("visa(0, 1, 4) on day 8, the days used", x.visa(0, 1, 4), 1);
        due("visa(0, 1, 3), more than there are", x.visa(0, 1, 3), 5);
        x.pass(1);
        due("visa(0, 1, 4) on day 9", x.visa(0, 1, 4), 0);
        due("visa(0, 1, 3)", x.visa(0, 1, 3), 6);
        x.pass(4);
        due("visa(0, 1, 3), no day behind its span", x.visa(0, 1, 3), 6);
        usedByTheEndOfTheDay();
    }

    /** What counts is where the stamps tell the holder at a day's end, not what he passes through. */
    private static void usedByTheEndOfTheDay() {
        BorderStamps x = Ready.traveller();
        x.cross(0, 1, 0);
        x.cross(0, 2, 0);
        x.pass(1);
        due("visa(0, 1, 3)", x.visa(0, 1, 3), 0);
        due("visa(0, 2, 3)", x.visa(0, 2, 3), 1);
        x.cross(0, 1, 2);
        x.pass(2);
        due("visa(0, 2, 3), told to be nowhere", x.visa(0, 2, 3), 1);
        due("visa(0, 1, 3)", x.visa(0, 1, 3), 0);
        x.cross(0, 3, 1);
        x.pass(4);
        due("visa(0, 3, 3)", x.visa(0, 3, 3), 4);
        due("visa(0, 2, 3)", x.visa(0, 2, 3), 1);
        x.cross(0, 0, 3);
        x.pass(1);
        due("visa(0, 3, 3), told though he left", x.visa(0, 3, 3), 5);
    }

    private static void reason() {
        promise = 19;
        BorderStamps x = Ready.traveller();
        due("reason(-1, 0)", x.reason(-1, 0), UNKNOWN);
        due("reason(1, 0)", x.reason(1, 0), UNKNOWN);
        due("reason(0, -1)", x.reason(0, -1), UNKNOWN);
        due("reason(0, 6)", x.reason(0, 6), UNKNOWN);
        due("reason(0, 1)", x.reason(0, 1), 0);
        due("reason(0, 0)", x.reason(0, 0), 1);
        x.grant(0, 1, 0, 3, 2);
        x.cross(0, 1, 0);
        due("reason(0, 0), home without a visa", x.reason(0, 0), 0);
        x.turnBorder(1, 0);
        due("reason(0, 0)", x.reason(0, 0), 2);
        x.turnBorder(1, 0);
        x.pass(1);
        x.cross(0, 0, 0);
        due("reason(0, 1) with a day left", x.reason(0, 1), 0);
        x.cross(0, 1, 0);
        x.pass(1);
        x.cross(0, 0, 0);
        due("reason(0, 1)", x.reason(0, 1), 4);
        x.turnBorder(0, 1);
        due("reason(0, 1)", x.reason(0, 1), 2);
        x.turnBorder(0, 1);
        x.pass(1);
        due("reason(0, 1) on the last day", x.reason(0, 1), 4);
        x.pass(1);
        due("reason(0, 1) behind it", x.reason(0, 1), 3);
        for (int i = 0; i < 4; i++) {
            x.cross(0, i % 2 == 0 ? 2 : 0, 0);
        }
        due("passport(0, 3)", x.passport(0, 3), 16);
        due("reason(0, 2)", x.reason(0, 2), 5);
        due("reason(0, 1)", x.reason(0, 1), 3);
        for (int i = 0; i < 52; i++) {
            x.cross(0, i % 2 == 0 ? 2 : 0, 3);
        }
        due("passport(0, 5)", x.passport(0, 5), 60);
        due("reason(0, 2), the first that holds", x.reason(0, 2), 5);
        x.renew(0);
        due("reason(0, 2)", x.reason(0, 2), 6);
        due("reason(0, 0)", x.reason(0, 0), 1);
    }

    private static void stay() {
        promise = 20;
        BorderStamps x = Ready.traveller();
        due("stay(-1, 0, 0, 9, true)", x.stay(-1, 0, 0, 9, true), UNKNOWN);
        due("stay(1, 0, 9, 0, true)", x.stay(1, 0, 9, 0, true), UNKNOWN);
        due("stay(0, 6, 9, 0, true)", x.stay(0, 6, 9, 0, true), UNKNOWN);
        due("stay(0, -1, 0, 9, true)", x.stay(0, -1, 0, 9, true), UNKNOWN);
        due("stay(0, 0, -1, 9, true)", x.stay(0, 0, -1, 9, true), BAD_VALUE);
        due("stay(0, 0, 5, 4, false)", x.stay(0, 0, 5, 4, false), BAD_VALUE);
        due("stay(0, 0, 0, 1000, false)", x.stay(0, 0, 0, 1000, false), BAD_VALUE);
        due("stay(0, 0, 1000, 1000, false)", x.stay(0, 0, 1000, 1000, false), BAD_VALUE);
        due("stay(0, 0, 0, 999, true), no day ended", x.stay(0, 0, 0, 999, true), 0);
        due("stay(0, 0, 0, 0, false)", x.stay(0, 0, 0, 0, false), 0);
        x.pass(2);
        x.cross(0, 1, 2);
        x.pass(3);
        x.cross(0, 2, 1);
        x.cross(0, 3, 0);
        x.cross(0, 4, 3);
        x.pass(4);
        due("stay(0, 0, 0, 999, true)", x.stay(0, 0, 0, 999, true), 2);
        due("stay(0, 0, 0, 999, false)", x.stay(0, 0, 0, 999, false), 2);
        due("stay(0, 1, 0, 999, true)", x.stay(0, 1, 0, 999, true), 0);
        due("stay(0, 1, 0, 999, false)", x.stay(0, 1, 0, 999, false), 3);
        due("stay(0, 2, 0, 999, true)", x.stay(0, 2, 0, 999, true), 0);
        due("stay(0, 2, 0, 999, false)", x.stay(0, 2, 0, 999, false), 0);
        due("stay(0, 3, 0, 999, true)", x.stay(0, 3, 0, 999, true), 4);
        due("stay(0, 3, 0, 999, false)", x.stay(0, 3, 0, 999, false), 0);
        due("stay(0, 4, 0, 999, false)", x.stay(0, 4, 0, 999, false), 4);
        due("stay(0, 1, 3, 3, false)", x.stay(0, 1, 3, 3, false), 1);
        due("stay(0, 1, 3, 4, false)", x.stay(0, 1, 3, 4, false), 2);
        due("stay(0, 1, 1, 2, false)", x.stay(0, 1, 1, 2, false), 1);
        due("stay(0, 1, 5, 9, false)", x.stay(0, 1, 5, 9, false), 0);
        due("stay(0, 3, 8, 8, true)", x.stay(0, 3, 8, 8, true), 1);
        due("stay(0, 3, 9, 9, true), today", x.stay(0, 3, 9, 9, true), 0);
        due("stay(0, 3, 999, 999, true)", x.stay(0, 3, 999, 999, true), 0);
        due("renew(0)", x.renew(0), 4);
        due("stay(0, 3, 0, 999, true)", x.stay(0, 3, 0, 999, true), 0);
        due("stay(0, 4, 0, 999, true)", x.stay(0, 4, 0, 999, true), 0);
        x.pass(1);
        due("stay(0, 4, 0, 999, true)", x.stay(0, 4, 0, 999, true), 1);
        due("stay(0, 4, 0, 999, false)", x.stay(0, 4, 0, 999, false), 5);
    }

    private static void wayTo() {
        promise = 21;
        BorderStamps x = Ready.traveller();
        due("wayTo(-1, 0)", x.wayTo(-1, 0), UNKNOWN);
        due("wayTo(1, 0)", x.wayTo(1, 0), UNKNOWN);
        due("wayTo(0, -1)", x.wayTo(0, -1), UNKNOWN);
        due("wayTo(0, 6)", x.wayTo(0, 6), UNKNOWN);
        due("wayTo(0, 0)", x.wayTo(0, 0), 0);
        due("wayTo(0, 5)", x.wayTo(0, 5), 1);
        // Only 0-1-2-3-4-5 stays open.
        for (int country = 0; country < 6; country++) {
            for (int other = country + 2; other < 6; other++) {
                x.turnBorder(country, other);
            }
        }
        for (int country = 0; country < 6; country++) {
            due("wayTo(0, " + country + ")", x.wayTo(0, country), country);
        }
        x.turnBorder(1, 4);
        due("wayTo(0, 5) by 1 and 4", x.wayTo(0, 5), 3);
        due("wayTo(0, 3)", x.wayTo(0, 3), 3);
        x.revoke(0, 4);
        due("wayTo(0, 5) without the visa of 4", x.wayTo(0, 5), NONE);
        due("wayTo(0, 4)", x.wayTo(0, 4), NONE);
        due("wayTo(0, 3)", x.wayTo(0, 3), 3);
        x.grant(0, 4, 1, 9, 9);
        due("wayTo(0, 4), not valid yet", x.wayTo(0, 4), NONE);
        x.pass(1);
        due("wayTo(0, 4)", x.wayTo(0, 4), 2);
        wayHome();
        wayByDays();
    }

    /** Home needs no visa, and neither does the country that he leaves. */
    private static void wayHome() {
        BorderStamps x = new BorderStamps();
        x.issue(3);
        x.grant(0, 1, 0, 0, 1);
        x.cross(0, 1, 0);
        x.pass(5);
        due("wayTo(0, 3)", x.wayTo(0, 3), 1);
        due("wayTo(0, 1), where he is", x.wayTo(0, 1), 0);
        x.grant(0, 2, 5, 9, 1);
        x.turnBorder(1, 2);
        due("wayTo(0, 2) by the home", x.wayTo(0, 2), 2);
        x.turnBorder(2, 3);
        due("wayTo(0, 2)", x.wayTo(0, 2), NONE);
    }

    private static void wayByDays() {
        BorderStamps x = Ready.traveller();
        x.grant(0, 1, 0, 99, 1);
        x.cross(0, 1, 0);
        x.pass(1);
        x.cross(0, 0, 0);
        x.turnBorder(0, 2);
        due("wayTo(0, 1), its days used", x.wayTo(0, 1), NONE);
        due("wayTo(0, 2) by 3", x.wayTo(0, 2), 2);
        x.turnBorder(2, 3);
        x.turnBorder(2, 4);
        x.turnBorder(2, 5);
        due("wayTo(0, 2), by 1 alone", x.wayTo(0, 2), NONE);
        x.grant(0, 1, 0, 99, 2);
        due("wayTo(0, 2)", x.wayTo(0, 2), 2);
    }

    private static void daysLeft() {
        promise = 22;
        BorderStamps x = new BorderStamps();
        x.issue(0);
        due("daysLeft(-1, 1)", x.daysLeft(-1, 1), UNKNOWN);
        due("daysLeft(1, 1)", x.daysLeft(1, 1), UNKNOWN);
        due("daysLeft(0, -1)", x.daysLeft(0, -1), UNKNOWN);
        due("daysLeft(0, 6)", x.daysLeft(0, 6), UNKNOWN);
        due("daysLeft(0, 1)", x.daysLeft(0, 1), NONE);
        due("daysLeft(0, 0)", x.daysLeft(0, 0), NONE);
        x.grant(0, 1, 5, 9, 99);
        due("daysLeft(0, 1), its span", x.daysLeft(0, 1), 5);
        x.grant(0, 1, 5, 9, 3);
        due("daysLeft(0, 1), its days", x.daysLeft(0, 1), 3);
        x.pass(5);
        due("daysLeft(0, 1) on its first day", x.daysLeft(0, 1), 3);
        x.cross(0, 1, 0);
        x.pass(1);
        due("daysLeft(0, 1), one used", x.daysLeft(0, 1), 2);
        x.cross(0, 0, 0);
        x.pass(2);
        due("daysLeft(0, 1), two days ahead", x.daysLeft(0, 1), 2);
        x.pass(1);
        due("daysLeft(0, 1) on its last day", x.daysLeft(0, 1), 1);
        x.pass(1);
        due("daysLeft(0, 1) behind it", x.daysLeft(0, 1), 0);
        x.grant(0, 1, 0, 99, 9);
        due("daysLeft(0, 1)", x.daysLeft(0, 1), 8);
        x.cross(0, 1, 0);
        x.pass(20);
        due("daysLeft(0, 1), more used than there are", x.daysLeft(0, 1), 0);
        x.pass(99);
        due("daysLeft(0, 1)", x.daysLeft(0, 1), 0);
    }

    private static void mistold() {
        promise = 23;
        BorderStamps x = new BorderStamps();
        due("mistold()", x.mistold(), 0);
        for (int home = 0; home < 6; home++) {
            x.issue(home);
            x.grant(home, (home + 1) % 6, 0, 99, 9);
        }
        due("mistold()", x.mistold(), 0);
        x.cross(1, 2, 0);
        due("mistold(), all stamped", x.mistold(), 0);
        x.cross(2, 3, 1);
        due("mistold(), the entry stamped", x.mistold(), 0);
        x.cross(3, 4, 2);
        due("mistold(), told to be nowhere", x.mistold(), 8);
        x.cross(5, 0, 3);
        due("mistold(), told to be at home", x.mistold(), 40);
        x.renew(5);
        due("mistold()", x.mistold(), 8);
        x.cross(3, 3, 3);
        due("mistold(), nowhere still", x.mistold(), 8);
        x.cross(0, 1, 3);
        x.cross(0, 0, 3);
        due("mistold(), back where he is told to be", x.mistold(), 8);
    }

    private static void holders() {
        promise = 24;
        BorderStamps x = new BorderStamps();
        due("holders(-1, true)", x.holders(-1, true), UNKNOWN);
        due("holders(6, false)", x.holders(6, false), UNKNOWN);
        due("holders(2, true)", x.holders(2, true), 0);
        x.issue(2);
        x.issue(3);
        x.issue(2);
        x.issue(0);
        x.issue(2);
        x.issue(2);
        due("holders(2, false)", x.holders(2, false), 53);
        due("holders(2, true)", x.holders(2, true), 53);
        due("holders(3, true)", x.holders(3, true), 2);
        x.grant(5, 3, 0, 9, 9);
        x.cross(5, 3, 2);
        due("holders(2, false)", x.holders(2, false), 21);
        due("holders(3, false)", x.holders(3, false), 34);
        due("holders(2, true)", x.holders(2, true), 21);
        due("holders(3, true)", x.holders(3, true), 2);
        x.grant(0, 3, 0, 9, 9);
        x.cross(0, 3, 3);
        due("holders(2, false)", x.holders(2, false), 20);
        due("holders(2, true)", x.holders(2, true), 21);
        due("holders(3, false)", x.holders(3, false), 35);
        due("holders(5, true)", x.holders(5, true), 0);
    }

    private static void count() {
        promise = 25;
        BorderStamps x = Ready.traveller();
        due("count(-1)", x.count(-1), BAD_VALUE);
        due("count(12)", x.count(12), BAD_VALUE);
        x.issue(1);
        x.grant(1, 0, 5, 9, 1);
        x.grant(1, 2, 0, 99, 1);
        x.turnBorder(3, 4);
        x.turnBorder(2, 4);
        x.cross(0, 3, 1);
        x.cross(0, 2, 0);
        x.cross(1, 2, 3);
        x.cross(1, 1, 2);
        x.grant(0, 2, 0, 1, 9);
        x.cross(1, 2, 0);
        x.pass(4);
        x.type('x');
        x.type('x');
        due("count(0)", x.count(0), 4);
        due("count(1)", x.count(1), 2);
        due("count(2)", x.count(2), 2);
        due("count(3)", x.count(3), 5);
        due("count(4)", x.count(4), 5);
        due("count(5)", x.count(5), 6);
        due("count(6), an entry into 3, two exits of 2 and 1", x.count(6), 3);
        due("count(7)", x.count(7), 7);
        due("count(8), without 2 of the one and 0 of the other", x.count(8), 5);
        due("count(9)", x.count(9), 4);
        due("count(10)", x.count(10), 4);
        due("count(11)", x.count(11), 2);
        due("passport(0, 6)", x.passport(0, 6), 2);
        due("passport(1, 6)", x.passport(1, 6), 3);
        x.renew(0);
        due("count(5), of books that holders have", x.count(5), 3);
        due("count(6)", x.count(6), 2);
        due("count(9)", x.count(9), 4);
        due("count(3)", x.count(3), 5);
    }
}
