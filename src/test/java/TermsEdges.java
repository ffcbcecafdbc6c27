/** The edges that the terms name: countries, passports, crossings, stamps, visas. A test for each sentence. */
final class TermsEdges {
    private static final int UNKNOWN = -1;
    private static final int BAD_VALUE = -2;
    private static final int FULL = -3;
    private static final int NOT_POSSIBLE = -4;
    private static final int NONE = -5;

    private final Words words;

    TermsEdges(Words words) {
        this.words = words;
    }

    void all() {
        lastCall();
        sixCountries();
        openAtFirst();
        daysOfTheBureau();
        sixPassports();
        homeAtFirst();
        toAnotherCountry();
        eitherForgets();
        sixtyCrossings();
        leavesOfABook();
        newBook();
        firstBook();
        toldAtFirst();
        toldBehindAnEntry();
        toldBehindAnExit();
        exitThatDoesNotFit();
        exitAsHeIsNowhere();
        entryThatDoesNotFit();
        gapsOfTheBook();
        oneVisaForEachCountry();
        bothDaysCounted();
        daysOfAVisa();
        validOnTheseDays();
        usedDaysOfTheSpan();
        usedDaysNotYetEnded();
        usedByTheEndOfTheDay();
        usedAsTheStampsWereThen();
        usedDaysOfTheBook();
        entersByAVisa();
        overstaysAbroad();
        overstaysWithoutAVisa();
        overstaysWithoutDays();
        daysThatUsedUp();
    }

    private void says(String sentence) {
        words.say("Terms", sentence);
    }

    private void due(String call, long got, long want) {
        words.due(call, got, want);
    }

    private void lastCall() {
        words.say("What it is", "An object is used for at most 512 calls after it has been made");
        BorderStamps x = Ready.traveller();
        String text = "v01:0-999*99;v02:0-999*99;v03:0-999*99;v04:0-999*99;.1";
        Due.write(x, text);
        int calls = 6 + 1 + text.length();
        while (calls < 511) {
            due("perform(), call " + ++calls, x.perform(), 5);
        }
        due("count(0), call 512", x.count(0), 511 - 7 - text.length());
        BorderStamps y = Ready.traveller();
        for (int call = 7; call < 512; call++) {
            due("pass(1), call " + call, y.pass(1), 0);
        }
        due("stay(), call 512", y.stay(0, 0, 0, 999, false), 505);
    }

    private void sixCountries() {
        says("There are 6 countries, 0 to 5");
        for (int country = 0; country < 6; country++) {
            BorderStamps x = new BorderStamps();
            due("issue(" + country + ")", x.issue(country), 0);
            due("holders(" + country + ", false)", x.holders(country, false), 1);
            due("reason(0, " + country + ")", x.reason(0, country), 1);
        }
        int[] none = Ready.BEYOND_5;
        words.dueOfEach(none, "issue()", (x, c) -> x.issue(c), UNKNOWN);
        words.dueOfEach(none, "grant()", (x, c) -> x.grant(0, c, 0, 9, 9), UNKNOWN);
        words.dueOfEach(none, "revoke()", (x, c) -> x.revoke(0, c), UNKNOWN);
        words.dueOfEach(none, "turnBorder()", (x, c) -> x.turnBorder(c, 0), UNKNOWN);
        words.dueOfEach(none, "turnBorder(), the other", (x, c) -> x.turnBorder(0, c), UNKNOWN);
        words.dueOfEach(none, "cross()", (x, c) -> x.cross(0, c, 0), UNKNOWN);
        words.dueOfEach(none, "visa()", (x, c) -> x.visa(0, c, 0), UNKNOWN);
        words.dueOfEach(none, "reason()", (x, c) -> x.reason(0, c), UNKNOWN);
        words.dueOfEach(none, "stay()", (x, c) -> x.stay(0, c, 0, 9, true), UNKNOWN);
        words.dueOfEach(none, "wayTo()", (x, c) -> x.wayTo(0, c), UNKNOWN);
        words.dueOfEach(none, "daysLeft()", (x, c) -> x.daysLeft(0, c), UNKNOWN);
        words.dueOfEach(none, "holders(), told", (x, c) -> x.holders(c, true), UNKNOWN);
        words.dueOfEach(none, "holders(), really", (x, c) -> x.holders(c, false), UNKNOWN);
    }

    private void openAtFirst() {
        says("the border of each two of them is open at first");
        for (int home = 0; home < 6; home++) {
            for (int country = 0; country < 6; country++) {
                if (country != home) {
                    BorderStamps x = new BorderStamps();
                    x.issue(home);
                    x.grant(0, country, 0, 0, 1);
                    due("cross() from " + home + " to " + country, x.cross(0, country, 0), 2);
                    due("reason() from " + country + " to " + home, x.reason(0, home), 0);
                    due("count(2)", x.count(2), 0);
                }
            }
        }
    }

    private void daysOfTheBureau() {
        says("The day is 0 at first, at most 999");
        BorderStamps x = Ready.traveller();
        due("count(0)", x.count(0), 0);
        due("keep()", x.keep(), 0);
        Ready.onDay(x, 998);
        due("pass(2) on day 998", x.pass(2), FULL);
        due("pass(1) on day 998", x.pass(1), 0);
        due("count(0)", x.count(0), 999);
        due("pass(1) on day 999", x.pass(1), FULL);
        due("pass(99) on day 999", x.pass(99), FULL);
        due("reason(0, 1) on day 999", x.reason(0, 1), 0);
        due("cross(0, 1, 0) on day 999", x.cross(0, 1, 0), 2);
        due("stamp(0, 1, 0)", x.stamp(0, 1, 0), 999);
        due("stay(0, 0, 0, 999, false), of which the last day has not ended", x.stay(0, 0, 0, 999, false), 999);
        due("stay(0, 1, 999, 999, false)", x.stay(0, 1, 999, 999, false), 0);
        due("daysLeft(0, 1) on the last day of all", x.daysLeft(0, 1), 1);
    }

    private void sixPassports() {
        says("At most 6 passports are issued ever, numbered from 0");
        BorderStamps x = new BorderStamps();
        due("passport(0, 0) before any is issued", x.passport(0, 0), UNKNOWN);
        for (int number = 0; number < 6; number++) {
            due("issue(3)", x.issue(3), number);
            due("passport(" + number + ", 0)", x.passport(number, 0), 3);
            due("passport(" + (number + 1) + ", 0), the next one", x.passport(number + 1, 0), UNKNOWN);
        }
        due("issue(3), the seventh", x.issue(3), FULL);
        due("count(1)", x.count(1), 6);
        for (int number : Ready.BEYOND_5) {
            due("passport(" + number + ", 0) with all 6 issued", x.passport(number, 0), UNKNOWN);
        }
    }

    private void homeAtFirst() {
        says("each has a home, a country, where the holder is at first, and a book");
        BorderStamps x = Ready.sixHolders();
        for (int passport = 0; passport < 6; passport++) {
            due("passport(" + passport + ", 0)", x.passport(passport, 0), passport);
            due("passport(" + passport + ", 1)", x.passport(passport, 1), passport);
            due("passport(" + passport + ", 7)", x.passport(passport, 7), 1);
        }
        x.grant(2, 4, 0, 9, 9);
        due("cross(2, 4, 0)", x.cross(2, 4, 0), 2);
        due("passport(2, 0), the home stays", x.passport(2, 0), 2);
        due("passport(2, 1)", x.passport(2, 1), 4);
    }

    private void toAnotherCountry() {
        says("To cross, a holder goes from the country where he is to another one, today.");
        BorderStamps x = Ready.traveller();
        due("cross(0, 0, 0), where he is", x.cross(0, 0, 0), -11);
        Ready.onDay(x, 7);
        due("cross(0, 1, 3)", x.cross(0, 1, 3), 0);
        due("cross(0, 1, 0), where he is, though told to be at home", x.cross(0, 1, 0), -11);
        due("cross(0, 0, 0), where he is told to be", x.cross(0, 0, 0), 2);
        due("stamp(0, 0, 0), today", x.stamp(0, 0, 0), 7);
        due("stamp(0, 0, 1), whence he comes", x.stamp(0, 0, 1), 1);
    }

    private void eitherForgets() {
        says("The officer of the one that he leaves stamps his book (an exit of that country, with the day), then the"
            + " officer of the one that he enters (an entry of that); either can forget it.");
        for (int forgets = 0; forgets < 4; forgets++) {
            BorderStamps x = Ready.onDay(Ready.traveller(), 3);
            int exits = forgets % 2 == 0 ? 1 : 0;
            int entries = forgets < 2 ? 1 : 0;
            due("cross(0, 1, " + forgets + ")", x.cross(0, 1, forgets), exits + entries);
            due("count(9)", x.count(9), 2 - exits - entries);
            if (exits == 1) {
                dueStamp(x, 0, 0, 0);
            }
            if (entries == 1) {
                dueStamp(x, exits, 1, 1);
            }
            due("stamp() behind the last one", x.stamp(0, exits + entries, 0), UNKNOWN);
            due("passport(0, 1), where he is all the same", x.passport(0, 1), 1);
        }
    }

    private void dueStamp(BorderStamps x, int rank, int country, int entry) {
        due("stamp(0, " + rank + ", 0)", x.stamp(0, rank, 0), 3);
        due("stamp(0, " + rank + ", 1)", x.stamp(0, rank, 1), country);
        due("stamp(0, " + rank + ", 2)", x.stamp(0, rank, 2), entry);
    }

    private void sixtyCrossings() {
        says("A holder crosses 60 times at most.");
        BorderStamps x = Ready.crossed(59);
        x.issue(0);
        x.grant(1, 1, 0, 9, 9);
        due("cross(0, 1, 3), his 59th again, is refused", x.cross(0, 1, 3), -11);
        due("cross(0, 0, 3), the 60th", x.cross(0, 0, 3), 0);
        due("cross(0, 1, 3), the 61st", x.cross(0, 1, 3), -16);
        due("reason(0, 1)", x.reason(0, 1), 6);
        due("passport(0, 5)", x.passport(0, 5), 60);
        due("cross(1, 1, 3) of another holder", x.cross(1, 1, 3), 0);
        due("count(3)", x.count(3), 61);
        due("renew(0)", x.renew(0), 0);
        due("cross(0, 1, 3) with a new book", x.cross(0, 1, 3), -16);
        due("undo() of renew()", x.undo(), 3);
        due("undo() of another's crossing", x.undo(), 2);
        due("undo() of the 60th", x.undo(), 1);
        due("cross(0, 0, 3), the 60th again", x.cross(0, 0, 3), 0);
        due("cross(0, 1, 3)", x.cross(0, 1, 3), -16);
    }

    private void leavesOfABook() {
        says("A book has 4 leaves for 4 stamps each.");
        BorderStamps x = Ready.stamped(16);
        due("passport(0, 3)", x.passport(0, 3), 16);
        int[] leaves = {0, 0, 0, 0, 1, 1, 1, 1, 2, 2, 2, 2, 3, 3, 3, 3};
        for (int rank = 0; rank < 16; rank++) {
            due("stamp(0, " + rank + ", 4)", x.stamp(0, rank, 4), leaves[rank]);
        }
        due("stamp(0, 16, 4)", x.stamp(0, 16, 4), UNKNOWN);
        due("cross(0, 1, 2), a 17th stamp", x.cross(0, 1, 2), -15);
        due("passport(0, 3)", x.passport(0, 3), 16);
        due("renew(0)", x.renew(0), 16);
        due("cross(0, 1, 0) with a new book", x.cross(0, 1, 0), 2);
        due("stamp(0, 0, 4)", x.stamp(0, 0, 4), 0);
    }

    private void newBook() {
        says("A new book has no stamps; it tells the country where it was begun (that where the holder is then) and the"
            + " day.");
        BorderStamps x = Ready.traveller();
        x.pass(2);
        x.cross(0, 1, 0);
        x.pass(2);
        x.cross(0, 2, 3);
        due("renew(0)", x.renew(0), 2);
        due("passport(0, 3)", x.passport(0, 3), 0);
        due("passport(0, 4)", x.passport(0, 4), 0);
        due("stamp(0, 0, 0)", x.stamp(0, 0, 0), UNKNOWN);
        due("passport(0, 2)", x.passport(0, 2), 2);
        x.pass(1);
        due("stay(0, 2, 0, 999, true), from day 4 on", x.stay(0, 2, 0, 999, true), 1);
        due("stay(0, 1, 0, 999, true)", x.stay(0, 1, 0, 999, true), 0);
        due("stay(0, 0, 0, 999, true)", x.stay(0, 0, 0, 999, true), 0);
        due("stay(0, 1, 0, 999, false)", x.stay(0, 1, 0, 999, false), 2);
    }

    private void firstBook() {
        says("The first book is begun at home, on the day on which it is issued.");
        BorderStamps x = Ready.onDay(new BorderStamps(), 5);
        due("issue(4)", x.issue(4), 0);
        due("passport(0, 2)", x.passport(0, 2), 4);
        due("passport(0, 3)", x.passport(0, 3), 0);
        due("stay(0, 4, 0, 999, true), no day ended", x.stay(0, 4, 0, 999, true), 0);
        x.pass(3);
        due("stay(0, 4, 0, 999, true)", x.stay(0, 4, 0, 999, true), 3);
        due("stay(0, 4, 0, 4, true), ahead of the day", x.stay(0, 4, 0, 4, true), 0);
        due("stay(0, 4, 5, 5, true), the day itself", x.stay(0, 4, 5, 5, true), 1);
    }

    private void toldAtFirst() {
        says("Where the stamps tell that the holder is: at first in the country where the book was begun");
        BorderStamps x = Ready.traveller();
        due("passport(0, 2)", x.passport(0, 2), 0);
        x.cross(0, 3, 3);
        due("passport(0, 2) without a stamp", x.passport(0, 2), 0);
        x.renew(0);
        due("passport(0, 2)", x.passport(0, 2), 3);
        x.cross(0, 4, 3);
        due("passport(0, 2)", x.passport(0, 2), 3);
    }

    private void toldBehindAnEntry() {
        says("behind an entry in its country");
        BorderStamps x = Ready.traveller();
        x.cross(0, 3, 0);
        due("passport(0, 2) behind an exit and an entry", x.passport(0, 2), 3);
        x.cross(0, 4, 1);
        due("passport(0, 2) behind an entry as he is told to be in 3", x.passport(0, 2), 4);
        x.cross(0, 5, 2);
        x.cross(0, 0, 1);
        due("passport(0, 2) behind an entry as he is told to be nowhere", x.passport(0, 2), 0);
    }

    private void toldBehindAnExit() {
        says("behind an exit nowhere (until there is an entry)");
        BorderStamps x = Ready.traveller();
        x.cross(0, 3, 2);
        due("passport(0, 2)", x.passport(0, 2), NONE);
        for (int country = 0; country < 6; country++) {
            due("holders(" + country + ", true)", x.holders(country, true), 0);
        }
        x.cross(0, 4, 2);
        due("passport(0, 2) behind another exit", x.passport(0, 2), NONE);
        x.cross(0, 5, 3);
        x.pass(4);
        due("passport(0, 2), still", x.passport(0, 2), NONE);
        x.cross(0, 1, 1);
        due("passport(0, 2) behind an entry", x.passport(0, 2), 1);
    }

    private void exitThatDoesNotFit() {
        says("A stamp does not fit if it is an exit of another country than that in which he is told to be");
        BorderStamps x = Ready.traveller();
        x.cross(0, 1, 2);
        due("stamp(0, 0, 3), an exit of the country where the book was begun", x.stamp(0, 0, 3), 0);
        x.cross(0, 2, 1);
        x.cross(0, 3, 2);
        due("stamp(0, 2, 3), an exit of the country of the entry", x.stamp(0, 2, 3), 0);
        BorderStamps y = Ready.traveller();
        y.cross(0, 1, 3);
        y.cross(0, 2, 2);
        due("stamp(0, 0, 1)", y.stamp(0, 0, 1), 1);
        due("stamp(0, 0, 3), an exit of 1, told to be at home", y.stamp(0, 0, 3), 1);
    }

    private void exitAsHeIsNowhere() {
        says("(also if he is told to be nowhere)");
        BorderStamps x = Ready.traveller();
        x.cross(0, 1, 2);
        x.cross(0, 0, 2);
        due("stamp(0, 1, 3)", x.stamp(0, 1, 3), 1);
        x.cross(0, 1, 2);
        due("stamp(0, 2, 3), of the country of which the first one is", x.stamp(0, 2, 3), 1);
        due("passport(0, 4)", x.passport(0, 4), 2);
    }

    private void entryThatDoesNotFit() {
        says("or an entry as he is told to be in some country");
        BorderStamps x = Ready.traveller();
        x.cross(0, 1, 1);
        due("stamp(0, 0, 3), an entry of 1, told to be at home", x.stamp(0, 0, 3), 1);
        x.cross(0, 2, 3);
        x.cross(0, 1, 1);
        due("stamp(0, 1, 3), an entry of 1, told to be there", x.stamp(0, 1, 3), 1);
        x.cross(0, 2, 0);
        due("stamp(0, 2, 3), an exit of 1", x.stamp(0, 2, 3), 0);
        due("stamp(0, 3, 3), an entry of 2, told to be nowhere", x.stamp(0, 3, 3), 0);
    }

    private void gapsOfTheBook() {
        says("each of these is a gap of the book");
        BorderStamps x = Ready.traveller();
        due("passport(0, 4) without a stamp", x.passport(0, 4), 0);
        for (int i = 0; i < 16; i++) {
            x.cross(0, i % 2 == 0 ? 1 : 0, 1);
            due("passport(0, 4), entries alone", x.passport(0, 4), i + 1);
        }
        due("count(6)", x.count(6), 16);
        x.renew(0);
        due("passport(0, 4) of a new book", x.passport(0, 4), 0);
        for (int i = 0; i < 16; i++) {
            x.cross(0, i % 2 == 0 ? 1 : 0, 2);
            due("passport(0, 4), exits alone, of which the first one fits", x.passport(0, 4), i);
        }
        due("passport(0, 4) of a full book without gaps", Ready.stamped(16).passport(0, 4), 0);
    }

    private void oneVisaForEachCountry() {
        says("A passport has at most one visa for each country but its home");
        BorderStamps x = Ready.traveller();
        due("passport(0, 8)", x.passport(0, 8), 5);
        due("grant(0, 2, 7, 8, 1), for a country once more", x.grant(0, 2, 7, 8, 1), 0);
        due("passport(0, 8)", x.passport(0, 8), 5);
        due("visa(0, 2, 0), of the later one", x.visa(0, 2, 0), 7);
        due("visa(0, 3, 0), of another country", x.visa(0, 3, 0), 0);
        due("grant(0, 0, 0, 9, 9), for the home", x.grant(0, 0, 0, 9, 9), NOT_POSSIBLE);
        due("passport(0, 8)", x.passport(0, 8), 5);
        due("visa(0, 0, 0)", x.visa(0, 0, 0), NONE);
        due("revoke(0, 2)", x.revoke(0, 2), 0);
        due("visa(0, 2, 0), the earlier one is gone", x.visa(0, 2, 0), NONE);
        for (int home = 0; home < 6; home++) {
            BorderStamps y = Ready.sixHolders();
            for (int country = 0; country < 6; country++) {
                due("grant() of home " + home + " for " + country, y.grant(home, country, 0, 9, 9),
                    country == home ? NOT_POSSIBLE : 0);
            }
        }
    }

    private void bothDaysCounted() {
        says("from a day to another one (both counted)");
        BorderStamps x = Ready.traveller();
        x.grant(0, 1, 4, 4, 9);
        due("daysLeft(0, 1) of a visa of one day", x.daysLeft(0, 1), 1);
        Ready.onDay(x, 3);
        due("cross(0, 1, 0) the day ahead", x.cross(0, 1, 0), -13);
        x.pass(1);
        due("cross(0, 1, 0) on the day", x.cross(0, 1, 0), 2);
        due("pass(1), no overstay on the last day", x.pass(1), 0);
        due("visa(0, 1, 3), the day is used", x.visa(0, 1, 3), 1);
        due("pass(1), behind the last day", x.pass(1), 1);
        due("visa(0, 1, 3)", x.visa(0, 1, 3), 1);
        due("grant(0, 1, 4, 5, 9), of two days", x.grant(0, 1, 4, 5, 9), 2);
        due("grant(0, 1, 5, 6, 9), of which one has ended", x.grant(0, 1, 5, 6, 9), 1);
    }

    private void daysOfAVisa() {
        says("with a number of days (1 to 99)");
        BorderStamps x = Ready.traveller();
        due("grant(0, 1, 0, 999, 1)", x.grant(0, 1, 0, 999, 1), 0);
        due("grant(0, 2, 0, 999, 99)", x.grant(0, 2, 0, 999, 99), 0);
        due("grant(0, 3, 0, 0, 99), more than its span", x.grant(0, 3, 0, 0, 99), 0);
        due("visa(0, 1, 2)", x.visa(0, 1, 2), 1);
        due("visa(0, 2, 2)", x.visa(0, 2, 2), 99);
        due("visa(0, 3, 2)", x.visa(0, 3, 2), 99);
        words.dueOfEach(Ready.BEYOND_1_TO_99, "grant()", (y, days) -> y.grant(0, 1, 0, 999, days), BAD_VALUE);
        due("cross(0, 1, 0)", x.cross(0, 1, 0), 2);
        due("pass(1), the one day", x.pass(1), 0);
        due("pass(1)", x.pass(1), 1);
        due("cross(0, 2, 0)", x.cross(0, 2, 0), 4);
        due("pass(99), the 99 days", x.pass(99), 0);
        due("pass(1)", x.pass(1), 1);
    }

    private void validOnTheseDays() {
        says("It is valid on these days.");
        BorderStamps x = Ready.traveller();
        x.grant(0, 1, 0, 0, 9);
        x.grant(0, 2, 1, 2, 9);
        x.grant(0, 3, 999, 999, 9);
        int[][] due = {{1, 0, 0}, {0, 1, 0}, {0, 1, 0}, {0, 0, 0}};
        for (int day = 0; day < due.length; day++) {
            for (int country = 1; country < 4; country++) {
                due("visa(0, " + country + ", 4) on day " + day, x.visa(0, country, 4), due[day][country - 1]);
                due("reason(0, " + country + ") on day " + day, x.reason(0, country), due[day][country - 1] == 1 ? 0 : 3);
            }
            x.pass(1);
        }
        Ready.onDay(x, 998);
        due("visa(0, 3, 4) on day 998", x.visa(0, 3, 4), 0);
        x.pass(1);
        due("visa(0, 3, 4) on day 999", x.visa(0, 3, 4), 1);
    }

    /** In 1 on the days 2 to 6 by a visa that is replaced then; it is day 10. */
    private BorderStamps behindAStay() {
        BorderStamps x = Ready.onDay(Ready.traveller(), 2);
        x.cross(0, 1, 0);
        x.pass(5);
        x.cross(0, 0, 0);
        x.pass(3);
        return x;
    }

    private void usedDaysOfTheSpan() {
        says("The used days of it are those days of its span");
        int[][] spans = {{0, 1, 0}, {0, 2, 1}, {2, 2, 1}, {3, 5, 3}, {2, 6, 5}, {0, 999, 5}, {6, 6, 1}, {6, 8, 1}, {7, 9, 0}};
        for (int[] span : spans) {
            BorderStamps x = behindAStay();
            due("grant() of " + span[0] + " to " + span[1], x.grant(0, 1, span[0], span[1], 9), span[2]);
            due("visa(0, 1, 3)", x.visa(0, 1, 3), span[2]);
            due("revoke(0, 1)", x.revoke(0, 1), span[2]);
        }
    }

    private void usedDaysNotYetEnded() {
        says("today and later ones not counted");
        BorderStamps x = Ready.traveller();
        x.cross(0, 1, 0);
        due("visa(0, 1, 3) on the day on which he came", x.visa(0, 1, 3), 0);
        x.pass(1);
        due("visa(0, 1, 3) on the next one", x.visa(0, 1, 3), 1);
        x.pass(1);
        due("visa(0, 1, 3)", x.visa(0, 1, 3), 2);
        due("grant(0, 1, 2, 9, 9) from today on", x.grant(0, 1, 2, 9, 9), 0);
        due("grant(0, 1, 3, 9, 9) from tomorrow on", x.grant(0, 1, 3, 9, 9), 0);
        due("grant(0, 1, 1, 9, 9) from yesterday on", x.grant(0, 1, 1, 9, 9), 1);
        due("grant(0, 1, 0, 2, 9) until today", x.grant(0, 1, 0, 2, 9), 2);
        due("grant(0, 1, 0, 1, 9) until yesterday", x.grant(0, 1, 0, 1, 9), 2);
    }

    private void usedByTheEndOfTheDay() {
        says("at the end of which the holder is told to be in the country, by the stamps of his book");
        BorderStamps x = Ready.traveller();
        x.cross(0, 1, 0);
        x.cross(0, 2, 0);
        x.pass(1);
        due("visa(0, 1, 3), left on the day", x.visa(0, 1, 3), 0);
        due("visa(0, 2, 3), the last one of the day", x.visa(0, 2, 3), 1);
        x.cross(0, 3, 2);
        x.pass(1);
        due("visa(0, 3, 3), of which no stamp tells", x.visa(0, 3, 3), 0);
        due("visa(0, 2, 3), told to be nowhere", x.visa(0, 2, 3), 1);
        x.cross(0, 4, 1);
        x.pass(1);
        x.cross(0, 0, 3);
        x.pass(2);
        due("visa(0, 4, 3), told to be there, and really at home", x.visa(0, 4, 3), 3);
        x.cross(0, 5, 0);
        x.cross(0, 4, 0);
        x.cross(0, 5, 0);
        x.pass(1);
        due("visa(0, 5, 3), there, away and there again", x.visa(0, 5, 3), 1);
        due("visa(0, 4, 3)", x.visa(0, 4, 3), 3);
    }

    private void usedAsTheStampsWereThen() {
        says("(as they were at the end of that day;");
        BorderStamps x = Ready.traveller();
        x.cross(0, 1, 0);
        x.pass(4);
        x.cross(0, 2, 1);
        x.pass(1);
        due("visa(0, 1, 3), an exit that is missing ends no day ahead", x.visa(0, 1, 3), 4);
        due("visa(0, 2, 3), an entry begins none", x.visa(0, 2, 3), 1);
        x.cross(0, 3, 3);
        x.cross(0, 1, 2);
        due("stamp(0, 3, 3), an exit of 3, told to be in 2", x.stamp(0, 3, 3), 1);
        x.pass(1);
        due("visa(0, 2, 3), a gap changes no day ahead", x.visa(0, 2, 3), 1);
        due("visa(0, 3, 3)", x.visa(0, 3, 3), 0);
    }

    private void usedDaysOfTheBook() {
        says("days ahead of that on which the book was begun do not count)");
        BorderStamps x = Ready.traveller();
        x.cross(0, 1, 0);
        x.pass(4);
        due("visa(0, 1, 3)", x.visa(0, 1, 3), 4);
        x.renew(0);
        due("visa(0, 1, 3) by the new book", x.visa(0, 1, 3), 0);
        due("grant(0, 1, 0, 99, 2)", x.grant(0, 1, 0, 99, 2), 0);
        due("pass(2), the day on which it was begun counts", x.pass(2), 0);
        due("visa(0, 1, 3)", x.visa(0, 1, 3), 2);
        due("pass(1)", x.pass(1), 1);
        due("renew(0)", x.renew(0), 0);
        due("revoke(0, 1)", x.revoke(0, 1), 0);
    }

    private void entersByAVisa() {
        says("To enter a country that is not his home a holder needs a visa that is valid today, with fewer used days than"
            + " it has.");
        BorderStamps x = behindAStay();
        due("grant(0, 1, 0, 99, 6)", x.grant(0, 1, 0, 99, 6), 5);
        due("reason(0, 1) with one day left", x.reason(0, 1), 0);
        x.grant(0, 1, 0, 99, 5);
        due("reason(0, 1) with as many as used", x.reason(0, 1), 4);
        x.grant(0, 1, 0, 99, 4);
        due("reason(0, 1) with more used than there are", x.reason(0, 1), 4);
        x.grant(0, 1, 10, 10, 1);
        due("reason(0, 1), valid just today", x.reason(0, 1), 0);
        x.grant(0, 1, 11, 99, 1);
        due("reason(0, 1), valid from tomorrow on", x.reason(0, 1), 3);
        x.grant(0, 1, 0, 9, 9);
        due("reason(0, 1), valid until yesterday", x.reason(0, 1), 3);
        x.grant(0, 1, 0, 9, 5);
        due("reason(0, 1), neither valid nor with days left", x.reason(0, 1), 3);
        x.cross(0, 2, 0);
        due("reason(0, 0), the home without a visa", x.reason(0, 0), 0);
    }

    private void overstaysAbroad() {
        says("When a day ends, each holder who is really in a country that is not his home");
        BorderStamps x = Ready.sixHolders();
        due("pass(9), all of them at home", x.pass(9), 0);
        for (int passport = 0; passport < 6; passport++) {
            x.grant(passport, (passport + 1) % 6, 9, 9, 1);
            x.cross(passport, (passport + 1) % 6, passport % 4);
        }
        due("pass(1), all by visas", x.pass(1), 0);
        due("pass(1), all of them abroad", x.pass(1), 6);
        due("cross(0, 0, 3), home, though told to be abroad", x.cross(0, 0, 3), 2);
        due("pass(2)", x.pass(2), 10);
        due("passport(0, 6)", x.passport(0, 6), 1);
        due("passport(3, 6), told to be at home", x.passport(3, 6), 3);
        due("passport(2, 6), told to be nowhere", x.passport(2, 6), 3);
        due("count(4)", x.count(4), 16);
    }

    private void overstaysWithoutAVisa() {
        says("without a visa that is valid on that day");
        BorderStamps x = Ready.traveller();
        x.grant(0, 1, 0, 2, 9);
        x.cross(0, 1, 0);
        due("pass(3), to the end of its last day", x.pass(3), 0);
        due("pass(1), behind its last day", x.pass(1), 1);
        x.grant(0, 1, 5, 9, 9);
        due("pass(1), ahead of its first day", x.pass(1), 1);
        due("pass(1), on its first day", x.pass(1), 0);
        x.revoke(0, 1);
        due("pass(1), without one", x.pass(1), 1);
        x.grant(0, 1, 9, 9, 9);
        due("pass(4), one of them with it", x.pass(4), 3);
        due("count(4)", x.count(4), 6);
    }

    private void overstaysWithoutDays() {
        says("or with as many used days, or more, as it has");
        BorderStamps x = behindAStay();
        x.cross(0, 1, 3);
        x.grant(0, 1, 0, 99, 6);
        due("pass(1) with fewer", x.pass(1), 0);
        x.grant(0, 1, 0, 99, 5);
        due("pass(1) with as many", x.pass(1), 1);
        x.grant(0, 1, 0, 99, 4);
        due("pass(1) with more", x.pass(1), 1);
        due("visa(0, 1, 3)", x.visa(0, 1, 3), 5);
    }

    private void daysThatUsedUp() {
        says("(used days ahead of that day)");
        BorderStamps x = Ready.traveller();
        x.grant(0, 1, 0, 99, 2);
        x.cross(0, 1, 0);
        due("pass(1), none used", x.pass(1), 0);
        due("pass(1), one used", x.pass(1), 0);
        due("pass(1), two used", x.pass(1), 1);
        BorderStamps y = Ready.traveller();
        y.grant(0, 1, 0, 99, 2);
        y.cross(0, 1, 0);
        due("pass(3), each day by those ahead of it", y.pass(3), 1);
        due("visa(0, 1, 3)", y.visa(0, 1, 3), 3);
    }
}
