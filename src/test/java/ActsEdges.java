/** The edges that promises 1 to 8 name. A test for each sentence. */
final class ActsEdges {
    private static final int UNKNOWN = -1;
    private static final int BAD_VALUE = -2;
    private static final int FULL = -3;
    private static final int NOT_POSSIBLE = -4;
    private static final int NONE = -5;

    private final Words words;
    private String promise;

    ActsEdges(Words words) {
        this.words = words;
    }

    void all() {
        newObject();
        issue();
        renew();
        grant();
        revoke();
        turnBorder();
        cross();
        pass();
    }

    private void says(String sentence) {
        words.say(promise, sentence);
    }

    private void due(String call, long got, long want) {
        words.due(call, got, want);
    }

    private void newObject() {
        promise = "Promise 1";
        says("Creates a bureau without passports, with open borders.");
        BorderStamps x = new BorderStamps();
        for (int what = 0; what < 12; what++) {
            due("count(" + what + ")", x.count(what), 0);
        }
        for (int number = -1; number < 7; number++) {
            due("passport(" + number + ", 0)", x.passport(number, 0), UNKNOWN);
        }
        for (int country = 0; country < 6; country++) {
            due("holders(" + country + ", true)", x.holders(country, true), 0);
            due("holders(" + country + ", false)", x.holders(country, false), 0);
        }
        due("mistold()", x.mistold(), 0);
        due("turnBorder(0, 5), the first one closed", x.turnBorder(0, 5), 1);
        due("count(2) of another object", new BorderStamps().count(2), 0);
        due("count(2)", x.count(2), 1);
    }

    // ---- promise 2

    private void issue() {
        promise = "Promise 2";
        homeOfAPassport();
        numberOfAPassport();
        issueUnknown();
        issueFull();
    }

    private void homeOfAPassport() {
        says("`home`: 0 to 5");
        for (int home = 0; home < 6; home++) {
            BorderStamps x = new BorderStamps();
            due("issue(" + home + ")", x.issue(home), 0);
            due("passport(0, 0)", x.passport(0, 0), home);
        }
        words.dueOfEach(Ready.BEYOND_5, "issue()", (x, home) -> x.issue(home), UNKNOWN);
    }

    private void numberOfAPassport() {
        says("Returns its number");
        BorderStamps x = new BorderStamps();
        for (int number = 0; number < 6; number++) {
            due("issue(5), number " + number, x.issue(5), number);
        }
        due("undo()", x.undo(), 3);
        due("undo()", x.undo(), 2);
        due("issue(2), the number that was undone", x.issue(2), 4);
        due("passport(4, 0)", x.passport(4, 0), 2);
        due("passport(5, 0)", x.passport(5, 0), UNKNOWN);
        numberIssuedAgain();
    }

    /** Nothing of a passport that was undone is the next one's of its number. */
    private void numberIssuedAgain() {
        BorderStamps x = travelledFrom5();
        for (int left = 2; left >= 0; left--) {
            due("undo()", x.undo(), left);
        }
        issueOfTheNumber(x);
        x = travelledFrom5();
        due("restore(), the state without a passport", x.restore(), 0);
        issueOfTheNumber(x);
    }

    private BorderStamps travelledFrom5() {
        BorderStamps x = new BorderStamps();
        x.keep();
        x.issue(5);
        due("perform()", Due.perform(x, "v00:0-0*1;v01:0-9*9;x00?;.5"), 4);
        due("renew(0)", x.renew(0), 1);
        due("count(4)", x.count(4), 4);
        return x;
    }

    private void issueOfTheNumber(BorderStamps x) {
        due("issue(3)", x.issue(3), 0);
        for (int what = 0; what < 9; what++) {
            due("passport(0, " + what + ")", x.passport(0, what), what < 3 ? 3 : what == 7 ? 1 : 0);
        }
        for (int country = 0; country < 6; country++) {
            due("visa(0, " + country + ", 0)", x.visa(0, country, 0), NONE);
        }
    }

    private void issueUnknown() {
        says("UNKNOWN");
        BorderStamps x = Ready.sixHolders();
        due("issue(6) ahead of FULL", x.issue(6), UNKNOWN);
        due("issue(-1) ahead of FULL", x.issue(-1), UNKNOWN);
    }

    private void issueFull() {
        says("FULL if 6 were issued");
        BorderStamps x = Ready.sixHolders();
        due("issue(0)", x.issue(0), FULL);
        due("issue(5)", x.issue(5), FULL);
        due("count(1)", x.count(1), 6);
        due("undo() of the sixth", x.undo(), 3);
        due("issue(0) behind 5", x.issue(0), 5);
        due("issue(0)", x.issue(0), FULL);
    }

    // ---- promise 3

    private void renew() {
        promise = "Promise 3";
        says("`passport`: a passport");
        BorderStamps x = Ready.sixHolders();
        for (int passport = 0; passport < 6; passport++) {
            due("renew(" + passport + ")", x.renew(passport), 0);
            due("passport(" + passport + ", 7)", x.passport(passport, 7), 2);
        }
        says("Returns how many stamps the old one had");
        for (int stamps = 0; stamps <= 16; stamps++) {
            BorderStamps y = Ready.stamped(stamps);
            due("renew(0) behind " + stamps, y.renew(0), stamps);
            due("renew(0) once more", y.renew(0), 0);
            due("passport(0, 7)", y.passport(0, 7), 3);
        }
        says("UNKNOWN");
        words.dueOfEach(Ready.BEYOND_5, "renew()", (y, passport) -> y.renew(passport), UNKNOWN);
        due("renew(1), which is not issued yet", Ready.traveller().renew(1), UNKNOWN);
        due("renew(0) without any", new BorderStamps().renew(0), UNKNOWN);
    }

    // ---- promise 4

    private void grant() {
        promise = "Promise 4";
        grantTo();
        grantFor();
        firstDayOfAVisa();
        lastDayOfAVisa();
        numberOfDays();
        grantInPlace();
        grantTellsUsedDays();
        grantUnknown();
        grantBadValue();
        grantForTheHome();
    }

    private void grantTo() {
        says("`passport`: a passport");
        BorderStamps x = Ready.sixHolders();
        for (int passport = 0; passport < 6; passport++) {
            due("grant()", x.grant(passport, (passport + 5) % 6, 0, 9, 9), 0);
            due("passport(" + passport + ", 8)", x.passport(passport, 8), 1);
        }
        words.dueOfEach(Ready.BEYOND_5, "grant()", (y, passport) -> y.grant(passport, 1, 0, 9, 9), UNKNOWN);
        due("grant() to one that is not issued yet", Ready.traveller().grant(1, 1, 0, 9, 9), UNKNOWN);
    }

    private void grantFor() {
        says("`country`: 0 to 5");
        BorderStamps x = new BorderStamps();
        x.issue(3);
        due("grant(0, 0, ..)", x.grant(0, 0, 0, 9, 9), 0);
        due("grant(0, 5, ..)", x.grant(0, 5, 0, 9, 9), 0);
        words.dueOfEach(Ready.BEYOND_5, "grant()", (y, country) -> y.grant(0, country, 0, 9, 9), UNKNOWN);
    }

    private void firstDayOfAVisa() {
        says("`from`: 0 to 999");
        BorderStamps x = Ready.traveller();
        due("grant(0, 1, 0, 999, 9)", x.grant(0, 1, 0, 999, 9), 0);
        due("visa(0, 1, 0)", x.visa(0, 1, 0), 0);
        due("grant(0, 1, 999, 999, 9)", x.grant(0, 1, 999, 999, 9), 0);
        due("visa(0, 1, 0)", x.visa(0, 1, 0), 999);
        words.dueOfEach(Ready.BEYOND_999, "grant(), from", (y, day) -> y.grant(0, 1, day, 999, 9), BAD_VALUE);
        words.dueOfEach(Ready.BEYOND_999, "grant(), from and until", (y, day) -> y.grant(0, 1, day, day, 9), BAD_VALUE);
    }

    private void lastDayOfAVisa() {
        says("`until`: from to 999");
        BorderStamps x = Ready.traveller();
        due("grant(0, 1, 7, 7, 9)", x.grant(0, 1, 7, 7, 9), 0);
        due("grant(0, 1, 0, 0, 9)", x.grant(0, 1, 0, 0, 9), 0);
        due("visa(0, 1, 1)", x.visa(0, 1, 1), 0);
        due("grant(0, 1, 7, 999, 9)", x.grant(0, 1, 7, 999, 9), 0);
        due("visa(0, 1, 1)", x.visa(0, 1, 1), 999);
        due("grant(0, 1, 7, 6, 9)", x.grant(0, 1, 7, 6, 9), BAD_VALUE);
        due("grant(0, 1, 999, 0, 9)", x.grant(0, 1, 999, 0, 9), BAD_VALUE);
        due("visa(0, 1, 1), that stays", x.visa(0, 1, 1), 999);
        words.dueOfEach(Ready.BEYOND_999, "grant(), until", (y, day) -> y.grant(0, 1, 0, day, 9), BAD_VALUE);
    }

    private void numberOfDays() {
        says("`days`: 1 to 99");
        BorderStamps x = Ready.traveller();
        due("grant(0, 1, 0, 9, 1)", x.grant(0, 1, 0, 9, 1), 0);
        due("visa(0, 1, 2)", x.visa(0, 1, 2), 1);
        due("grant(0, 1, 0, 9, 99)", x.grant(0, 1, 0, 9, 99), 0);
        due("visa(0, 1, 2)", x.visa(0, 1, 2), 99);
        words.dueOfEach(Ready.BEYOND_1_TO_99, "grant()", (y, days) -> y.grant(0, 1, 0, 9, days), BAD_VALUE);
    }

    private void grantInPlace() {
        says("in place of the one that there is for the country");
        BorderStamps x = Ready.traveller();
        due("grant(0, 5, 3, 4, 5)", x.grant(0, 5, 3, 4, 5), 0);
        int[] due = {3, 4, 5};
        for (int what = 0; what < 3; what++) {
            due("visa(0, 5, " + what + ")", x.visa(0, 5, what), due[what]);
        }
        due("passport(0, 8)", x.passport(0, 8), 5);
        due("reason(0, 5), the wider one is gone", x.reason(0, 5), 3);
        due("undo()", x.undo(), 3);
        due("visa(0, 5, 1)", x.visa(0, 5, 1), 999);
    }

    private void grantTellsUsedDays() {
        says("Returns its used days");
        BorderStamps x = Ready.traveller();
        x.cross(0, 1, 0);
        due("grant() on the day on which he came", x.grant(0, 1, 0, 999, 99), 0);
        x.pass(10);
        due("grant() of the whole span", x.grant(0, 1, 0, 999, 99), 10);
        due("grant(), more than its days", x.grant(0, 1, 0, 999, 1), 10);
        due("grant() of a part", x.grant(0, 1, 3, 4, 99), 2);
        due("grant() of a span to come", x.grant(0, 1, 10, 99, 99), 0);
        due("grant() for another country", x.grant(0, 2, 0, 999, 99), 0);
        x.renew(0);
        due("grant() with a new book", x.grant(0, 1, 0, 999, 99), 0);
    }

    private void grantUnknown() {
        says("UNKNOWN (passport or country)");
        BorderStamps x = Ready.traveller();
        due("grant(1, 0, 9, 0, 0) ahead of BAD_VALUE", x.grant(1, 0, 9, 0, 0), UNKNOWN);
        due("grant(0, 6, -1, 9, 9) ahead of BAD_VALUE", x.grant(0, 6, -1, 9, 9), UNKNOWN);
        due("grant(1, 6, 0, 9, 100), both", x.grant(1, 6, 0, 9, 100), UNKNOWN);
    }

    private void grantBadValue() {
        says("BAD_VALUE");
        BorderStamps x = Ready.traveller();
        due("grant(0, 0, -1, 9, 9) ahead of NOT_POSSIBLE", x.grant(0, 0, -1, 9, 9), BAD_VALUE);
        due("grant(0, 0, 5, 4, 9) ahead of NOT_POSSIBLE", x.grant(0, 0, 5, 4, 9), BAD_VALUE);
        due("grant(0, 0, 0, 1000, 9) ahead of NOT_POSSIBLE", x.grant(0, 0, 0, 1000, 9), BAD_VALUE);
        due("grant(0, 0, 0, 9, 0) ahead of NOT_POSSIBLE", x.grant(0, 0, 0, 9, 0), BAD_VALUE);
        due("grant(0, 0, 0, 9, 100) ahead of NOT_POSSIBLE", x.grant(0, 0, 0, 9, 100), BAD_VALUE);
    }

    private void grantForTheHome() {
        says("NOT_POSSIBLE for the home");
        for (int home = 0; home < 6; home++) {
            BorderStamps x = Ready.sixHolders();
            due("grant() to " + home + " for his home", x.grant(home, home, 0, 9, 9), NOT_POSSIBLE);
            due("count(7)", x.count(7), 0);
        }
        BorderStamps x = Ready.traveller();
        x.cross(0, 1, 0);
        due("grant(0, 0, 0, 9, 9) as he is abroad", x.grant(0, 0, 0, 9, 9), NOT_POSSIBLE);
        due("grant(0, 1, 0, 9, 9) for where he is", x.grant(0, 1, 0, 9, 9), 0);
    }

    // ---- promise 5

    private void revoke() {
        promise = "Promise 5";
        says("`passport`: a passport");
        BorderStamps x = Ready.sixHolders();
        for (int passport = 0; passport < 6; passport++) {
            x.grant(passport, (passport + 1) % 6, 0, 9, 9);
            due("revoke(" + passport + ", ..)", x.revoke(passport, (passport + 1) % 6), 0);
        }
        words.dueOfEach(Ready.BEYOND_5, "revoke()", (y, passport) -> y.revoke(passport, 1), UNKNOWN);
        due("revoke(1, 1), not issued yet", Ready.traveller().revoke(1, 1), UNKNOWN);
        says("`country`: 0 to 5");
        BorderStamps z = new BorderStamps();
        z.issue(3);
        z.grant(0, 0, 0, 9, 9);
        z.grant(0, 5, 0, 9, 9);
        due("revoke(0, 0)", z.revoke(0, 0), 0);
        due("revoke(0, 5)", z.revoke(0, 5), 0);
        due("count(7)", z.count(7), 0);
        words.dueOfEach(Ready.BEYOND_5, "revoke()", (y, country) -> y.revoke(0, country), UNKNOWN);
        revokeAnswers();
    }

    private void revokeAnswers() {
        says("Returns its used days");
        BorderStamps x = Ready.traveller();
        x.cross(0, 1, 0);
        Ready.onDay(x, 120);
        due("revoke(0, 1), more than its days", x.revoke(0, 1), 120);
        x = Ready.traveller();
        x.grant(0, 1, 0, 2, 2);
        x.cross(0, 1, 0);
        x.pass(9);
        due("revoke(0, 1), those of its span", x.revoke(0, 1), 3);
        due("revoke(0, 2)", x.revoke(0, 2), 0);
        says("UNKNOWN (passport or country)");
        due("revoke(1, 0)", x.revoke(1, 0), UNKNOWN);
        due("revoke(0, 6) ahead of NONE", x.revoke(0, 6), UNKNOWN);
        due("revoke(1, 6)", x.revoke(1, 6), UNKNOWN);
        says("NONE if there is none");
        due("revoke(0, 1), taken back before", x.revoke(0, 1), NONE);
        due("revoke(0, 0), the home", x.revoke(0, 0), NONE);
        due("revoke(0, 3)", x.revoke(0, 3), 0);
        due("revoke(0, 3)", x.revoke(0, 3), NONE);
        x.issue(1);
        due("revoke(1, 4) of another holder", x.revoke(1, 4), NONE);
        due("passport(0, 8)", x.passport(0, 8), 2);
    }

    // ---- promise 6

    private void turnBorder() {
        promise = "Promise 6";
        says("`country`: 0 to 5");
        BorderStamps x = new BorderStamps();
        due("turnBorder(0, 3)", x.turnBorder(0, 3), 1);
        due("turnBorder(5, 3)", x.turnBorder(5, 3), 2);
        words.dueOfEach(Ready.BEYOND_5, "turnBorder()", (y, country) -> y.turnBorder(country, 1), UNKNOWN);
        says("`other`: 0 to 5");
        due("turnBorder(4, 0)", x.turnBorder(4, 0), 3);
        due("turnBorder(4, 5)", x.turnBorder(4, 5), 4);
        words.dueOfEach(Ready.BEYOND_5, "turnBorder()", (y, other) -> y.turnBorder(1, other), UNKNOWN);
        closesOrOpens();
        closedBorders();
        says("UNKNOWN (country or other)");
        words.dueOfEach(Ready.BEYOND_5, "turnBorder(), both, ahead of BAD_VALUE", (y, c) -> y.turnBorder(c, c), UNKNOWN);
        says("BAD_VALUE if both are the same");
        for (int country = 0; country < 6; country++) {
            due("turnBorder(" + country + ", " + country + ")", x.turnBorder(country, country), BAD_VALUE);
        }
        due("count(2)", x.count(2), 4);
    }

    private void closesOrOpens() {
        says("Closes the border of two countries, or opens it, if it is closed.");
        for (int country = 0; country < 6; country++) {
            for (int other = 0; other < 6; other++) {
                if (other != country) {
                    BorderStamps x = Ready.sixHolders();
                    x.grant(country, other, 0, 9, 9);
                    x.grant(other, country, 0, 9, 9);
                    x.turnBorder(country, other);
                    due("reason() from " + country + " to " + other, x.reason(country, other), 2);
                    due("reason() from " + other + " to " + country, x.reason(other, country), 2);
                    due("turnBorder(), the other way", x.turnBorder(other, country), 0);
                    due("reason() from " + country + " to " + other, x.reason(country, other), 0);
                }
            }
        }
    }

    private void closedBorders() {
        says("Returns how many borders are closed then");
        BorderStamps x = new BorderStamps();
        int closed = 0;
        for (int country = 0; country < 6; country++) {
            for (int other = country + 1; other < 6; other++) {
                due("turnBorder(" + country + ", " + other + ")", x.turnBorder(country, other), ++closed);
            }
        }
        due("count(2), each two of them", x.count(2), 15);
        for (int country = 0; country < 6; country++) {
            for (int other = country + 1; other < 6; other++) {
                due("turnBorder(" + other + ", " + country + ")", x.turnBorder(other, country), --closed);
            }
        }
        due("count(2), none again", x.count(2), 0);
    }

    // ---- promise 7

    private void cross() {
        promise = "Promise 7";
        crossBy();
        crossTo();
        crossForgets();
        stampsThen();
        crossUnknown();
        crossBadValue();
        crossRefused();
        crossWithoutRoom();
    }

    private void crossBy() {
        says("`passport`: a passport");
        BorderStamps x = Ready.sixHolders();
        for (int passport = 0; passport < 6; passport++) {
            x.grant(passport, (passport + 3) % 6, 0, 9, 9);
            due("cross(" + passport + ", ..)", x.cross(passport, (passport + 3) % 6, 0), 2);
            due("count(3)", x.count(3), passport + 1);
        }
        words.dueOfEach(Ready.BEYOND_5, "cross()", (y, passport) -> y.cross(passport, 1, 0), UNKNOWN);
        due("cross(1, 1, 0), not issued yet", Ready.traveller().cross(1, 1, 0), UNKNOWN);
    }

    private void crossTo() {
        says("`country`: 0 to 5");
        BorderStamps x = Ready.traveller();
        due("cross(0, 5, 0)", x.cross(0, 5, 0), 2);
        due("cross(0, 0, 0)", x.cross(0, 0, 0), 4);
        words.dueOfEach(Ready.BEYOND_5, "cross()", (y, country) -> y.cross(0, country, 0), UNKNOWN);
    }

    private void crossForgets() {
        says("`forgets`: 0 for none, 1 for the exit, 2 for the entry, 3 for both");
        int[] stamps = {2, 1, 1, 0};
        int[] first = {0, 1, 0, UNKNOWN};
        for (int forgets = 0; forgets < 4; forgets++) {
            BorderStamps x = Ready.traveller();
            due("cross(0, 1, " + forgets + ")", x.cross(0, 1, forgets), stamps[forgets]);
            due("stamp(0, 0, 2)", x.stamp(0, 0, 2), first[forgets]);
            due("count(9)", x.count(9), 2 - stamps[forgets]);
        }
        int[] beyond = {-1, 4, 5, 7, 256, 1 << 16, Integer.MIN_VALUE, Integer.MAX_VALUE};
        words.dueOfEach(beyond, "cross()", (x, forgets) -> x.cross(0, 1, forgets), BAD_VALUE);
    }

    private void stampsThen() {
        says("Returns how many stamps the book has then");
        BorderStamps x = Ready.traveller();
        due("cross(0, 1, 3), none", x.cross(0, 1, 3), 0);
        due("cross(0, 2, 2)", x.cross(0, 2, 2), 1);
        due("cross(0, 3, 1)", x.cross(0, 3, 1), 2);
        due("cross(0, 4, 0)", x.cross(0, 4, 0), 4);
        due("cross(0, 5, 3), not one more", x.cross(0, 5, 3), 4);
        x.renew(0);
        due("cross(0, 4, 0), of the new book", x.cross(0, 4, 0), 2);
        due("cross(0, 0, 0), to the last one", Ready.stamped(14).cross(0, 0, 0), 16);
    }

    private void crossUnknown() {
        says("UNKNOWN (passport or country)");
        BorderStamps x = Ready.traveller();
        due("cross(1, 1, 4) ahead of BAD_VALUE", x.cross(1, 1, 4), UNKNOWN);
        due("cross(0, 6, -1) ahead of BAD_VALUE", x.cross(0, 6, -1), UNKNOWN);
        due("cross(1, 6, 0)", x.cross(1, 6, 0), UNKNOWN);
    }

    private void crossBadValue() {
        says("BAD_VALUE");
        BorderStamps x = Ready.traveller();
        due("cross(0, 0, 4) ahead of the reason 1", x.cross(0, 0, 4), BAD_VALUE);
        due("cross(0, 0, -1) ahead of the reason 1", x.cross(0, 0, -1), BAD_VALUE);
        due("cross(0, 1, 4) of a full book", Ready.stamped(16).cross(0, 1, 4), BAD_VALUE);
        due("cross(0, 1, 4) behind 60 crossings", Ready.crossed(60).cross(0, 1, 4), BAD_VALUE);
    }

    private void crossRefused() {
        says("REFUSED minus the reason");
        BorderStamps x = Ready.traveller();
        x.grant(0, 1, 0, 99, 1);
        due("cross(0, 0, 0), there", x.cross(0, 0, 0), -11);
        x.turnBorder(0, 1);
        due("cross(0, 1, 0), closed", x.cross(0, 1, 0), -12);
        x.turnBorder(0, 1);
        x.revoke(0, 2);
        due("cross(0, 2, 0), no visa", x.cross(0, 2, 0), -13);
        x.cross(0, 1, 0);
        x.pass(1);
        x.cross(0, 0, 0);
        due("cross(0, 1, 0), days used", x.cross(0, 1, 0), -14);
        due("cross(0, 1, 0), no room", Ready.stamped(16).cross(0, 1, 0), -15);
        due("cross(0, 1, 0), 60 crossings", Ready.crossed(60).cross(0, 1, 0), -16);
    }

    private void crossWithoutRoom() {
        says("REFUSED minus the reason (for the reason 5 with the stamps that would be made)");
        int[] made = {2, 1, 1, 0};
        for (int stamps = 13; stamps <= 16; stamps++) {
            for (int forgets = 0; forgets < 4; forgets++) {
                BorderStamps x = Ready.stamped(stamps);
                int country = x.passport(0, 1) == 1 ? 0 : 1;
                int then = stamps + made[forgets];
                due("cross(0, " + country + ", " + forgets + ") behind " + stamps, x.cross(0, country, forgets),
                    then > 16 ? -15 : then);
            }
        }
        BorderStamps x = Ready.crossed(Ready.stamped(16), 52, 3);
        due("cross(0, 1, 2), without room ahead of 60 crossings", x.cross(0, 1, 2), -15);
        due("cross(0, 1, 3), 60 crossings, with room for no stamp", x.cross(0, 1, 3), -16);
    }

    // ---- promise 8

    private void pass() {
        promise = "Promise 8";
        says("`days`: 1 to 99");
        BorderStamps x = new BorderStamps();
        due("pass(1)", x.pass(1), 0);
        due("count(0)", x.count(0), 1);
        due("pass(99)", x.pass(99), 0);
        due("count(0)", x.count(0), 100);
        words.dueOfEach(Ready.BEYOND_1_TO_99, "pass()", (y, days) -> y.pass(days), BAD_VALUE);
        overstaysByThem();
        says("BAD_VALUE");
        Ready.onDay(x, 999);
        for (int days : Ready.BEYOND_1_TO_99) {
            due("pass(" + days + ") on day 999, ahead of FULL", x.pass(days), BAD_VALUE);
        }
        passFull();
    }

    private void overstaysByThem() {
        says("Returns how many overstays there are by them");
        due("pass(99) without a passport", new BorderStamps().pass(99), 0);
        BorderStamps x = Ready.sixHolders();
        for (int passport = 0; passport < 6; passport++) {
            x.grant(passport, (passport + 1) % 6, 0, 0, 1);
            x.cross(passport, (passport + 1) % 6, 0);
        }
        due("pass(1), by visas", x.pass(1), 0);
        due("pass(99) of all 6", x.pass(99), 594);
        due("pass(1), of it alone", x.pass(1), 6);
        due("count(4), of all", x.count(4), 600);
        x.cross(0, 0, 0);
        due("pass(1) of 5", x.pass(1), 5);
    }

    private void passFull() {
        says("FULL if the day would be beyond 999");
        for (int days = 1; days <= 99; days += 14) {
            BorderStamps x = Ready.onDay(Ready.traveller(), 1000 - days);
            due("pass(" + days + ") to day 1000", x.pass(days), FULL);
            due("count(0)", x.count(0), 1000 - days);
            if (days > 1) {
                due("pass(" + (days - 1) + ") to day 999", x.pass(days - 1), 0);
                due("count(0)", x.count(0), 999);
            }
            due("pass(1)", x.pass(1), FULL);
        }
    }
}
