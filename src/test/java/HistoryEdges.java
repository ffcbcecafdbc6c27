import java.util.ArrayList;
import java.util.LinkedHashMap;
import java.util.List;
import java.util.Map;
import java.util.function.Supplier;

/** The edges that the terms on the history and on errors and promises 13 to 15 name. A test for each sentence. */
final class HistoryEdges {
    private static final int UNKNOWN = -1;
    private static final int BAD_VALUE = -2;
    private static final int FULL = -3;
    private static final int NOT_POSSIBLE = -4;
    private static final int NONE = -5;

    private final Words words;

    HistoryEdges(Words words) {
        this.words = words;
    }

    void all() {
        fourStates();
        latestState();
        eachActRecords();
        nothingElseRecords();
        snapshotEmptyAtFirst();
        whatIsNoState();
        constants();
        orderOfTheChecks();
        noneIsNoError();
        refusedCallsChangeNothing();
        stopOfARefusedPerform();
        undo();
        keep();
        restore();
    }

    private void says(String sentence) {
        words.say("Terms", sentence);
    }

    private void due(String call, long got, long want) {
        words.due(call, got, want);
    }

    // ---- terms

    private void fourStates() {
        says("A history of at most 4 states is kept; when one more is recorded, the oldest one is dropped");
        for (int acts = 0; acts <= 10; acts++) {
            BorderStamps x = new BorderStamps();
            for (int i = 0; i < acts; i++) {
                x.pass(1);
                due("count(10) behind " + (i + 1), x.count(10), Math.min(i + 1, 4));
            }
            for (int left = Math.min(acts, 4) - 1; left >= 0; left--) {
                due("undo()", x.undo(), left);
            }
            due("undo() of an empty one", x.undo(), NONE);
            due("count(0), the oldest that is kept of " + acts, x.count(0), Math.max(0, acts - 4));
        }
    }

    private void latestState() {
        says("undo() removes and restores the latest one");
        BorderStamps x = new BorderStamps();
        x.pass(1);
        x.pass(2);
        x.pass(4);
        due("undo()", x.undo(), 2);
        due("count(0)", x.count(0), 3);
        due("undo(), not the one that was removed", x.undo(), 1);
        due("count(0)", x.count(0), 1);
        due("pass(9)", x.pass(9), 0);
        due("undo()", x.undo(), 1);
        due("count(0)", x.count(0), 1);
        due("undo()", x.undo(), 0);
        due("count(0)", x.count(0), 0);
    }

    /** What is described as an act, by the name of its call, with its answer on a busy bureau. */
    private static Map<String, Words.Asked> acts() {
        Map<String, Words.Asked> acts = new LinkedHashMap<>();
        acts.put("issue(5)", x -> x.issue(5));
        acts.put("renew(0)", x -> x.renew(0));
        acts.put("grant(0, 5, 0, 9, 9)", x -> x.grant(0, 5, 0, 9, 9));
        acts.put("grant(0, 1, 0, 9, 9), in place of one", x -> x.grant(0, 1, 0, 9, 9));
        acts.put("grant(1, 0, 5, 6, 7), for the first country", x -> x.grant(1, 0, 5, 6, 7));
        acts.put("revoke(0, 1)", x -> x.revoke(0, 1));
        acts.put("revoke(1, 0), for the first country", x -> x.revoke(1, 0));
        acts.put("turnBorder(0, 1)", x -> x.turnBorder(0, 1));
        acts.put("turnBorder(2, 4), to open it", x -> x.turnBorder(2, 4));
        acts.put("cross(0, 4, 0)", x -> x.cross(0, 4, 0));
        acts.put("cross(0, 4, 3)", x -> x.cross(0, 4, 3));
        acts.put("pass(1)", x -> x.pass(1));
        acts.put("pass(99)", x -> x.pass(99));
        acts.put("perform()", x -> x.perform());
        acts.put("restore()", x -> x.restore());
        return acts;
    }

    private void eachActRecords() {
        says("Each call of a method that is described as an act, and returns no error and not NONE, records the state that"
            + " was before it.");
        String before = Ready.told(thrice());
        for (Map.Entry<String, Words.Asked> act : acts().entrySet()) {
            BorderStamps x = thrice();
            due("count(10)", x.count(10), 3);
            words.holds(act.getKey() + " is done", act.getValue().of(x) >= 0);
            due("count(10) behind " + act.getKey(), x.count(10), 4);
            due("undo() of " + act.getKey(), x.undo(), 3);
            words.holds(act.getKey() + " is undone", Ready.told(x).equals(before));
        }
    }

    /** A busy bureau with 3 states in the history. */
    private static BorderStamps thrice() {
        BorderStamps x = Ready.busy();
        x.undo();
        return x;
    }

    private void nothingElseRecords() {
        says("that is described as an act");
        BorderStamps x = Ready.busy();
        x.undo();
        x.undo();
        x.type('.');
        x.clearText();
        x.stopped(0);
        x.keep();
        x.passport(0, 0);
        x.stamp(0, 0, 0);
        x.visa(0, 1, 0);
        x.reason(0, 0);
        x.stay(0, 0, 0, 9, true);
        x.wayTo(0, 1);
        x.daysLeft(0, 1);
        x.mistold();
        x.holders(0, true);
        x.count(0);
        due("count(10)", x.count(10), 2);
    }

    private void snapshotEmptyAtFirst() {
        says("There is one snapshot, empty at first.");
        BorderStamps x = Ready.traveller();
        due("restore() before keep()", x.restore(), NONE);
        due("keep()", x.keep(), 0);
        x.pass(3);
        due("keep(), the second one", x.keep(), 3);
        x.pass(4);
        due("restore()", x.restore(), 3);
        due("restore(), there is no other one", x.restore(), 3);
    }

    private void whatIsNoState() {
        says("A state is everything but the text, the history, the snapshot and the latest stop.");
        BorderStamps x = new BorderStamps();
        x.keep();
        x.pass(1);
        Due.perform(x, "x00");
        x.keep();
        Due.write(x, ".5;.6");
        due("undo()", x.undo(), 0);
        due("count(11), the text", x.count(11), 5);
        due("stopped(1), the latest stop", x.stopped(1), UNKNOWN);
        due("restore(), the later snapshot", x.restore(), 1);
        due("count(11), the text", x.count(11), 5);
        due("stopped(1), the latest stop", x.stopped(1), UNKNOWN);
        due("count(10), the history goes on", x.count(10), 1);
        due("perform()", x.perform(), 2);
        due("restore()", x.restore(), 1);
        due("count(10)", x.count(10), 3);
        everythingElse();
        passportsOfTheState();
    }

    /** Four more restores fill both histories with the same states. */
    private void everythingElse() {
        BorderStamps x = Ready.busy();
        x.keep();
        x.issue(5);
        x.renew(0);
        x.revoke(0, 3);
        x.turnBorder(0, 1);
        x.cross(0, 4, 1);
        x.pass(9);
        due("restore()", x.restore(), 5);
        BorderStamps y = Ready.busy();
        y.keep();
        for (int i = 0; i < 4; i++) {
            x.restore();
            y.restore();
        }
        words.holds("all of the state is restored", Ready.told(x).equals(Ready.told(y)));
    }

    /** The number of a passport that was undone is another one's then; the snapshot brings the first one back. */
    private void passportsOfTheState() {
        BorderStamps x = new BorderStamps();
        due("issue(4)", x.issue(4), 0);
        x.grant(0, 0, 0, 9, 9);
        due("keep()", x.keep(), 0);
        x.undo();
        x.undo();
        due("issue(2)", x.issue(2), 0);
        due("passport(0, 0)", x.passport(0, 0), 2);
        due("passport(0, 8)", x.passport(0, 8), 0);
        due("restore()", x.restore(), 0);
        due("passport(0, 0)", x.passport(0, 0), 4);
        due("passport(0, 8)", x.passport(0, 8), 1);
        due("undo()", x.undo(), 1);
        due("passport(0, 0)", x.passport(0, 0), 2);
        due("passport(0, 8)", x.passport(0, 8), 0);
    }

    private void constants() {
        says("`UNKNOWN = -1`: There is no such country, passport or stamp.");
        due("UNKNOWN", BorderStamps.UNKNOWN, -1);
        says("`BAD_VALUE = -2`: Another argument is out of range.");
        due("BAD_VALUE", BorderStamps.BAD_VALUE, -2);
        says("`FULL = -3`: There is no more room.");
        due("FULL", BorderStamps.FULL, -3);
        says("`NOT_POSSIBLE = -4`: This is not possible.");
        due("NOT_POSSIBLE", BorderStamps.NOT_POSSIBLE, -4);
        says("`NONE = -5`: There is no such thing; not an error.");
        due("NONE", BorderStamps.NONE, -5);
        says("`REFUSED = -10`: A holder cannot cross: this minus the reason is returned.");
        due("REFUSED", BorderStamps.REFUSED, -10);
        due("cross(0, 0, 0)", Ready.traveller().cross(0, 0, 0), -11);
    }

    private void orderOfTheChecks() {
        says("Where several errors can apply, the order of the @return line is the order of the checks.");
        BorderStamps x = Ready.full();
        due("issue(6), UNKNOWN ahead of FULL", x.issue(6), UNKNOWN);
        due("issue(0)", x.issue(0), FULL);
        due("grant(6, 0, -1, 0, 0), UNKNOWN ahead of BAD_VALUE", x.grant(6, 0, -1, 0, 0), UNKNOWN);
        due("grant(0, 0, -1, 0, 0), BAD_VALUE ahead of NOT_POSSIBLE", x.grant(0, 0, -1, 0, 0), BAD_VALUE);
        due("grant(0, 0, 0, 0, 1)", x.grant(0, 0, 0, 0, 1), NOT_POSSIBLE);
        due("turnBorder(6, 6), UNKNOWN ahead of BAD_VALUE", x.turnBorder(6, 6), UNKNOWN);
        due("cross(6, 0, 4), UNKNOWN ahead of BAD_VALUE", x.cross(6, 0, 4), UNKNOWN);
        due("cross(0, 0, 4), BAD_VALUE ahead of REFUSED", x.cross(0, 0, 4), BAD_VALUE);
        due("cross(0, 0, 0)", x.cross(0, 0, 0), -11);
        due("pass(0), BAD_VALUE ahead of FULL", x.pass(0), BAD_VALUE);
        due("pass(1)", x.pass(1), FULL);
        due("passport(6, 9), UNKNOWN ahead of BAD_VALUE", x.passport(6, 9), UNKNOWN);
        due("stamp(6, 0, 5), UNKNOWN ahead of BAD_VALUE", x.stamp(6, 0, 5), UNKNOWN);
        due("stamp(0, 16, 5), UNKNOWN ahead of BAD_VALUE", x.stamp(0, 16, 5), UNKNOWN);
        due("visa(0, 6, 5), UNKNOWN ahead of BAD_VALUE", x.visa(0, 6, 5), UNKNOWN);
        due("stay(0, 6, 1, 0, true), UNKNOWN ahead of BAD_VALUE", x.stay(0, 6, 1, 0, true), UNKNOWN);
    }

    private void noneIsNoError() {
        says("NONE is no error; it is returned only if no error applies.");
        BorderStamps x = new BorderStamps();
        x.issue(0);
        due("revoke(0, 6)", x.revoke(0, 6), UNKNOWN);
        due("revoke(1, 1)", x.revoke(1, 1), UNKNOWN);
        due("revoke(0, 1)", x.revoke(0, 1), NONE);
        due("visa(0, 1, 5)", x.visa(0, 1, 5), BAD_VALUE);
        due("visa(0, 1, -1)", x.visa(0, 1, -1), BAD_VALUE);
        due("visa(1, 1, 0)", x.visa(1, 1, 0), UNKNOWN);
        due("visa(0, 1, 0)", x.visa(0, 1, 0), NONE);
        due("stopped(2)", x.stopped(2), BAD_VALUE);
        due("stopped(0)", x.stopped(0), NONE);
        due("wayTo(0, 6)", x.wayTo(0, 6), UNKNOWN);
        due("wayTo(1, 1)", x.wayTo(1, 1), UNKNOWN);
        due("wayTo(0, 1)", x.wayTo(0, 1), NONE);
        due("daysLeft(0, 6)", x.daysLeft(0, 6), UNKNOWN);
        due("daysLeft(1, 1)", x.daysLeft(1, 1), UNKNOWN);
        due("daysLeft(0, 1)", x.daysLeft(0, 1), NONE);
        due("count(10), none of them records", x.count(10), 1);
    }

    private void refusedCallsChangeNothing() {
        says("A call that returns an error or NONE changes nothing");
        refused(Ready::busy, refusedOfABusyOne());
        refused(Ready::full, refusedOfAFullOne());
        refused(BorderStamps::new, refusedOfANewOne());
    }

    private record Refused(String call, Words.Asked asked, int due) {
    }

    /** Each call is asked of a bureau of its own, which must then tell what one tells of which it was not asked. */
    private void refused(Supplier<BorderStamps> made, List<Refused> calls) {
        String before = Ready.told(made.get());
        for (Refused refused : calls) {
            BorderStamps x = made.get();
            due(refused.call, refused.asked.of(x), refused.due);
            words.holds(refused.call + " changes nothing", Ready.told(x).equals(before));
        }
    }

    private static List<Refused> refusedOfABusyOne() {
        List<Refused> calls = new ArrayList<>();
        calls.add(new Refused("issue(6)", x -> x.issue(6), UNKNOWN));
        calls.add(new Refused("issue(-1)", x -> x.issue(-1), UNKNOWN));
        calls.add(new Refused("renew(2)", x -> x.renew(2), UNKNOWN));
        calls.add(new Refused("grant(2, 1, 0, 9, 9)", x -> x.grant(2, 1, 0, 9, 9), UNKNOWN));
        calls.add(new Refused("grant(0, 6, 0, 9, 9)", x -> x.grant(0, 6, 0, 9, 9), UNKNOWN));
        calls.add(new Refused("grant(0, 1, 9, 8, 9)", x -> x.grant(0, 1, 9, 8, 9), BAD_VALUE));
        calls.add(new Refused("grant(0, 1, 0, 9, 0)", x -> x.grant(0, 1, 0, 9, 0), BAD_VALUE));
        calls.add(new Refused("grant(0, 0, 0, 9, 9)", x -> x.grant(0, 0, 0, 9, 9), NOT_POSSIBLE));
        calls.add(new Refused("revoke(2, 1)", x -> x.revoke(2, 1), UNKNOWN));
        calls.add(new Refused("revoke(0, 5)", x -> x.revoke(0, 5), NONE));
        calls.add(new Refused("turnBorder(6, 0)", x -> x.turnBorder(6, 0), UNKNOWN));
        calls.add(new Refused("turnBorder(1, 1)", x -> x.turnBorder(1, 1), BAD_VALUE));
        calls.add(new Refused("cross(2, 1, 0)", x -> x.cross(2, 1, 0), UNKNOWN));
        calls.add(new Refused("cross(0, 4, 4)", x -> x.cross(0, 4, 4), BAD_VALUE));
        calls.add(new Refused("cross(0, 3, 0)", x -> x.cross(0, 3, 0), -11));
        calls.add(new Refused("cross(0, 5, 3)", x -> x.cross(0, 5, 3), -13));
        calls.add(new Refused("pass(0)", x -> x.pass(0), BAD_VALUE));
        calls.add(new Refused("pass(100)", x -> x.pass(100), BAD_VALUE));
        calls.add(new Refused("stopped(2)", x -> x.stopped(2), BAD_VALUE));
        calls.add(new Refused("passport(0, 9)", x -> x.passport(0, 9), BAD_VALUE));
        calls.add(new Refused("stamp(0, 4, 0)", x -> x.stamp(0, 4, 0), UNKNOWN));
        calls.add(new Refused("stamp(0, 0, 5)", x -> x.stamp(0, 0, 5), BAD_VALUE));
        calls.add(new Refused("visa(0, 5, 0)", x -> x.visa(0, 5, 0), NONE));
        calls.add(new Refused("reason(2, 0)", x -> x.reason(2, 0), UNKNOWN));
        calls.add(new Refused("stay(0, 0, 1, 0, true)", x -> x.stay(0, 0, 1, 0, true), BAD_VALUE));
        calls.add(new Refused("wayTo(0, 5)", x -> x.wayTo(0, 5), NONE));
        calls.add(new Refused("daysLeft(0, 5)", x -> x.daysLeft(0, 5), NONE));
        calls.add(new Refused("holders(6, true)", x -> x.holders(6, true), UNKNOWN));
        calls.add(new Refused("count(12)", x -> x.count(12), BAD_VALUE));
        return calls;
    }

    private static List<Refused> refusedOfAFullOne() {
        List<Refused> calls = new ArrayList<>();
        calls.add(new Refused("issue(0)", x -> x.issue(0), FULL));
        calls.add(new Refused("cross(0, 1, 0)", x -> x.cross(0, 1, 0), -15));
        calls.add(new Refused("cross(0, 1, 3)", x -> x.cross(0, 1, 3), -16));
        calls.add(new Refused("pass(1)", x -> x.pass(1), FULL));
        calls.add(new Refused("type('1')", x -> x.type('1'), FULL));
        calls.add(new Refused("perform()", x -> x.perform(), -101));
        return calls;
    }

    private static List<Refused> refusedOfANewOne() {
        List<Refused> calls = new ArrayList<>();
        calls.add(new Refused("undo()", x -> x.undo(), NONE));
        calls.add(new Refused("restore()", x -> x.restore(), NONE));
        calls.add(new Refused("stopped(0)", x -> x.stopped(0), NONE));
        calls.add(new Refused("perform()", x -> x.perform(), -100));
        calls.add(new Refused("renew(0)", x -> x.renew(0), UNKNOWN));
        return calls;
    }

    private void stopOfARefusedPerform() {
        says("(but for the latest stop of perform())");
        BorderStamps x = Ready.traveller();
        due("perform()", Due.perform(x, ".1;x00"), NOT_POSSIBLE);
        due("stopped(0)", x.stopped(0), 1);
        due("stopped(1)", x.stopped(1), -11);
        due("count(0)", x.count(0), 0);
        due("perform()", Due.perform(x, "x10"), NOT_POSSIBLE);
        due("stopped(0)", x.stopped(0), 0);
        due("stopped(1)", x.stopped(1), UNKNOWN);
    }

    // ---- promises 13 to 15

    private void undo() {
        words.say("Promise 13", "Returns the number of states that are left");
        BorderStamps x = Ready.traveller();
        for (int left = 3; left >= 0; left--) {
            due("undo()", x.undo(), left);
            due("count(10)", x.count(10), left);
            due("passport(0, 8)", x.passport(0, 8), left + 1);
        }
        words.say("Promise 13", "NONE if the history is empty");
        due("undo()", x.undo(), NONE);
        due("undo()", x.undo(), NONE);
        due("passport(0, 8)", x.passport(0, 8), 1);
        due("undo() of a new object", new BorderStamps().undo(), NONE);
        due("revoke(0, 1)", x.revoke(0, 1), 0);
        due("undo()", x.undo(), 0);
        due("undo()", x.undo(), NONE);
    }

    private void keep() {
        words.say("Promise 14", "Takes a snapshot of the state, in place of the one that was.");
        BorderStamps x = new BorderStamps();
        x.keep();
        x.issue(4);
        x.keep();
        x.issue(5);
        due("restore()", x.restore(), 0);
        due("count(1)", x.count(1), 1);
        due("passport(0, 0)", x.passport(0, 0), 4);
        due("renew(0), of which the snapshot knows nothing", x.renew(0), 0);
        due("restore()", x.restore(), 0);
        due("passport(0, 7)", x.passport(0, 7), 1);
        words.say("Promise 14", "Returns the day");
        for (int day : new int[] {0, 1, 998, 999}) {
            due("keep()", Ready.onDay(new BorderStamps(), day).keep(), day);
        }
    }

    private void restore() {
        words.say("Promise 15", "Restores the state of the snapshot, which stays. This is an act.");
        BorderStamps x = Ready.onDay(new BorderStamps(), 3);
        x.keep();
        x.pass(5);
        due("restore()", x.restore(), 3);
        due("undo()", x.undo(), 2);
        due("count(0)", x.count(0), 8);
        due("restore(), once more", x.restore(), 3);
        due("restore(), of the state itself, which is an act all the same", x.restore(), 3);
        due("count(10)", x.count(10), 4);
        words.say("Promise 15", "Returns the day then");
        for (int day : new int[] {0, 1, 998, 999}) {
            BorderStamps y = Ready.onDay(new BorderStamps(), day);
            y.keep();
            y.undo();
            due("restore()", y.restore(), day);
            due("count(0)", y.count(0), day);
        }
        words.say("Promise 15", "NONE if there is no snapshot");
        BorderStamps z = new BorderStamps();
        due("restore()", z.restore(), NONE);
        due("count(10)", z.count(10), 0);
        z.pass(1);
        z.undo();
        due("restore()", z.restore(), NONE);
    }
}
