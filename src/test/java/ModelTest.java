/** Runs of 512 calls, drawn from fixed seeds, each call asked of the program and of the model. */
public final class ModelTest {
    private static final int RUNS = 4000;
    private static final int CALLS = 512;

    private static final Due DUE = new Due("ModelTest");

    private final int run;
    private final BorderStamps bureau = new BorderStamps();
    private final Model model = new Model();
    private long seed;
    // What a run does most: some cross by far more often than others, some fill books, some let many days end.
    private final int style;
    private int calls;

    private ModelTest(int run) {
        this.run = run;
        this.seed = 0x5DEECE66DL * (run + 1) + 11;
        this.style = run % 6;
    }

    public static void main(String[] args) {
        for (int run = 0; run < RUNS && !DUE.anyWrong(); run++) {
            new ModelTest(run).play();
        }
        DUE.end();
    }

    private int draw(int bound) {
        seed = seed * 6364136223846793005L + 1442695040888963407L;
        return (int) ((seed >>> 33) % bound);
    }

    private int wild() {
        int[] wild = {-1, 0, 6, 7, -2, 99, 100, 999, 1000, Integer.MAX_VALUE, Integer.MIN_VALUE, 16, 60};
        return wild[draw(wild.length)];
    }

    /** Mostly 0 to most, seldom something else: mostly what is just beyond it. */
    private int number(int most) {
        return draw(40) > 0 ? draw(most + 1) : draw(2) == 0 ? most + 1 : wild();
    }

    private int holder() {
        return number(draw(8) == 0 ? 5 : style == 3 ? 0 : 2);
    }

    private int today() {
        return model.count(0);
    }

    private int near(int day) {
        return Math.max(0, Math.min(999, day + draw(25) - 12));
    }

    private int days() {
        if (draw(40) == 0) {
            return wild();
        }
        return style == 4 && draw(3) == 0 ? 60 + draw(40) : draw(12) == 0 ? 99 : 1 + draw(4);
    }

    private void due(String call, int got, int want) {
        calls++;
        DUE.is("run " + run + ", call " + calls + ": " + call, got, want);
    }

    private void play() {
        for (int i = 0; i < 3; i++) {
            issue();
        }
        if (style == 3 || style == 5) {
            for (int country = 0; country < 6; country++) {
                due("grant", bureau.grant(0, country, 0, 999, 99), model.grant(0, country, 0, 999, 99));
            }
        }
        while (calls < CALLS && !DUE.anyWrong()) {
            if (draw(5) < 2) {
                act();
            } else {
                ask();
            }
        }
    }

    private void act() {
        switch (draw(24)) {
            case 0: issue(); break;
            case 1: case 2: renew(); break;
            case 3: case 4: case 5: case 6: grant(); break;
            case 7: revoke(); break;
            case 8: turnBorder(); break;
            case 9: case 10: case 11: case 12: case 13: case 14: cross(); break;
            case 15: case 16: case 17: pass(); break;
            case 18: due("undo()", bureau.undo(), model.undo()); break;
            case 19: history(); break;
            default: text(); break;
        }
        if (style == 3) {
            for (int i = 0; i < 3 && calls < CALLS; i++) {
                cross();
            }
        }
    }

    private void history() {
        if (draw(2) == 0) {
            due("keep()", bureau.keep(), model.keep());
        } else {
            due("restore()", bureau.restore(), model.restore());
        }
    }

    private void issue() {
        int home = number(5);
        due("issue(" + home + ")", bureau.issue(home), model.issue(home));
    }

    private void renew() {
        int passport = holder();
        due("renew(" + passport + ")", bureau.renew(passport), model.renew(passport));
    }

    private void grant() {
        int passport = holder();
        int country = number(5);
        int from = draw(20) == 0 ? wild() : near(today());
        int until = draw(20) == 0 ? wild() : draw(12) == 0 ? near(from) : Math.min(999, from + draw(60));
        int days = draw(30) == 0 ? wild() : draw(6) == 0 ? 99 : 1 + draw(9);
        due("grant(" + passport + ", " + country + ", " + from + ", " + until + ", " + days + ")",
            bureau.grant(passport, country, from, until, days), model.grant(passport, country, from, until, days));
    }

    private void revoke() {
        int passport = holder();
        int country = number(5);
        due("revoke(" + passport + ", " + country + ")", bureau.revoke(passport, country), model.revoke(passport, country));
    }

    private void turnBorder() {
        int country = number(5);
        int other = number(5);
        due("turnBorder(" + country + ", " + other + ")", bureau.turnBorder(country, other),
            model.turnBorder(country, other));
    }

    private void cross() {
        int passport = holder();
        // Mostly to where he can go, so that runs come far.
        int country = number(5);
        for (int i = 0; i < 6 && model.reason(passport, country) > 0 && draw(8) > 0; i++) {
            country = draw(6);
        }
        int forgets = draw(40) == 0 ? wild() : style == 3 && draw(2) == 0 ? 3 : draw(2) == 0 ? 0 : draw(4);
        due("cross(" + passport + ", " + country + ", " + forgets + ")", bureau.cross(passport, country, forgets),
            model.cross(passport, country, forgets));
    }

    private void pass() {
        int days = days();
        due("pass(" + days + ")", bureau.pass(days), model.pass(days));
    }

    private void text() {
        if (calls + 70 > CALLS) {
            return;
        }
        due("clearText()", bureau.clearText(), model.clearText());
        StringBuilder text = new StringBuilder();
        int things = 1 + draw(style == 2 ? 9 : 3);
        for (int i = 0; i < things; i++) {
            text.append(i == 0 ? "" : ";").append(thing());
        }
        if (draw(4) == 0) {
            spoil(text);
        }
        // One character more than there is room for, at most.
        for (int i = 0; i < Math.min(text.length(), 61); i++) {
            due("type(" + (int) text.charAt(i) + ")", bureau.type(text.charAt(i)), model.type(text.charAt(i)));
        }
        due("perform() of " + text, bureau.perform(), model.perform());
    }

    private String thing() {
        int passport = draw(3);
        switch (draw(4)) {
            case 0:
                int from = near(today());
                return "v" + passport + draw(6) + ":" + from + "-" + Math.min(999, from + draw(30) - draw(8) / 7) + "*"
                    + (1 + draw(99));
            case 1: return "." + (1 + draw(draw(9) == 0 ? 99 : 4));
            default:
                return "x" + passport + draw(6) + (draw(4) == 0 ? "!" : "") + (draw(4) == 0 ? "?" : "");
        }
    }

    private void spoil(StringBuilder text) {
        String characters = "0123456789xv.;:-*!?0099 \u0000\uffff";
        int place = draw(text.length() + 1);
        char character = characters.charAt(draw(characters.length()));
        switch (draw(4)) {
            case 0: text.setLength(place); break;
            case 1: text.insert(place, character); break;
            case 2:
                if (place < text.length()) {
                    text.deleteCharAt(place);
                }
                break;
            default:
                if (place < text.length()) {
                    text.setCharAt(place, character);
                }
                break;
        }
    }

    private void ask() {
        int passport = holder();
        int country = number(5);
        int what = number(8);
        String both = "(" + passport + ", " + country;
        switch (draw(12)) {
            case 0:
                due("passport(" + passport + ", " + what + ")", bureau.passport(passport, what),
                    model.passport(passport, what));
                break;
            case 1:
                int rank = number(15);
                int part = number(4);
                due("stamp(" + passport + ", " + rank + ", " + part + ")", bureau.stamp(passport, rank, part),
                    model.stamp(passport, rank, part));
                break;
            case 2:
                int asked = number(4);
                due("visa" + both + ", " + asked + ")", bureau.visa(passport, country, asked),
                    model.visa(passport, country, asked));
                break;
            case 3: due("reason" + both + ")", bureau.reason(passport, country), model.reason(passport, country)); break;
            case 4: case 5: stay(passport, country); break;
            case 6: due("wayTo" + both + ")", bureau.wayTo(passport, country), model.wayTo(passport, country)); break;
            case 7:
                due("daysLeft" + both + ")", bureau.daysLeft(passport, country), model.daysLeft(passport, country));
                break;
            case 8: due("mistold()", bureau.mistold(), model.mistold()); break;
            case 9:
                boolean told = draw(2) == 0;
                due("holders(" + country + ", " + told + ")", bureau.holders(country, told), model.holders(country, told));
                break;
            case 10:
                int kind = number(1);
                due("stopped(" + kind + ")", bureau.stopped(kind), model.stopped(kind));
                break;
            default:
                int counted = number(11);
                due("count(" + counted + ")", bureau.count(counted), model.count(counted));
                break;
        }
    }

    private void stay(int passport, int country) {
        int from = draw(20) == 0 ? wild() : draw(3) == 0 ? 0 : near(today() - 10);
        int until = draw(20) == 0 ? wild() : draw(3) == 0 ? 999 : near(today());
        boolean told = draw(2) == 0;
        due("stay(" + passport + ", " + country + ", " + from + ", " + until + ", " + told + ")",
            bureau.stay(passport, country, from, until, told), model.stay(passport, country, from, until, told));
    }
}
