/** The edges that promises 16 to 25 name. A test for each sentence. */
final class ToldEdges {
    private static final int UNKNOWN = -1;
    private static final int BAD_VALUE = -2;
    private static final int NONE = -5;

    private final Words words;
    private String promise;

    ToldEdges(Words words) {
        this.words = words;
    }

    void all() {
        passport();
        stamp();
        visa();
        reason();
        stay();
        wayTo();
        daysLeft();
        mistold();
        holders();
        count();
    }

    private void says(String sentence) {
        words.say(promise, sentence);
    }

    private void due(String call, long got, long want) {
        words.due(call, got, want);
    }

    private static int next(int passport) {
        return Math.floorMod(passport + 1, 6);
    }

    /** Each of six holders has come from his home to the next country, a day ago, by a visa for 9 days. */
    private void eachPassport(String call, Words.AskedBy asked, int due) {
        says("`passport`: a passport");
        BorderStamps x = Ready.sixHolders();
        for (int passport = 0; passport < 6; passport++) {
            x.grant(passport, next(passport), 0, 9, 9);
            x.cross(passport, next(passport), 0);
        }
        x.pass(1);
        for (int passport = 0; passport < 6; passport++) {
            due(call + " of " + passport, asked.of(x, passport), due);
        }
        words.dueOfEach(Ready.BEYOND_5, call, asked, UNKNOWN);
        due(call + " of one that is not issued yet", asked.of(Ready.traveller(), 1), UNKNOWN);
        due(call + " of 0 without any", asked.of(new BorderStamps(), 0), UNKNOWN);
    }

    /** A holder at home in 3 has visas for 0 and 5. */
    private void eachCountry(String call, Words.AskedBy asked, int due) {
        says("`country`: 0 to 5");
        BorderStamps x = new BorderStamps();
        x.issue(3);
        x.grant(0, 0, 0, 9, 9);
        x.grant(0, 5, 0, 9, 9);
        due(call + " of 0", asked.of(x, 0), due);
        due(call + " of 5", asked.of(x, 5), due);
        words.dueOfEach(Ready.BEYOND_5, call, asked, UNKNOWN);
    }

    // ---- promise 16

    private void passport() {
        promise = "Promise 16";
        eachPassport("passport()", (x, passport) -> x.passport(passport, 3), 2);
        whatOfAPassport();
        says("UNKNOWN");
        due("passport(1, 9) ahead of BAD_VALUE", Ready.traveller().passport(1, 9), UNKNOWN);
        due("passport(-1, -1) ahead of BAD_VALUE", Ready.traveller().passport(-1, -1), UNKNOWN);
        says("BAD_VALUE");
        int[] beyond = {-1, 9, 10, 1 << 16, Integer.MIN_VALUE, Integer.MAX_VALUE};
        words.dueOfEach(beyond, "passport()", (x, what) -> x.passport(0, what), BAD_VALUE);
    }

    private void whatOfAPassport() {
        says("`what`: 0 for the home, 1 for where the holder is, 2 for where the stamps tell it (NONE for nowhere), 3 for the"
            + " stamps of the book, 4 for its gaps, 5 for crossings so far, 6 for overstays so far, 7 for books so far, 8"
            + " for visas");
        BorderStamps x = Ready.busy();
        int[][] due = {{0, 3, NONE, 4, 1, 3, 2, 1, 4}, {3, 0, 0, 0, 0, 1, 0, 2, 1}};
        for (int passport = 0; passport < 2; passport++) {
            for (int what = 0; what < 9; what++) {
                due("passport(" + passport + ", " + what + ")", x.passport(passport, what), due[passport][what]);
            }
        }
        says("Returns the number");
        x = Ready.full();
        int[] full = {0, 0, 0, 16, 0, 60, 0, 1, 5};
        for (int what = 0; what < 9; what++) {
            due("passport(0, " + what + ") of a full one", x.passport(0, what), full[what]);
        }
        for (int what = 0; what < 9; what++) {
            due("passport(5, " + what + ")", x.passport(5, what), what < 3 ? 5 : what == 7 ? 1 : 0);
        }
    }

    // ---- promise 17

    private void stamp() {
        promise = "Promise 17";
        eachPassport("stamp()", (x, passport) -> x.stamp(passport, 1, 2), 1);
        rankOfAStamp();
        whatOfAStamp();
        bookThatHeHas();
        says("UNKNOWN (passport or stamp)");
        BorderStamps x = Ready.stamped(2);
        due("stamp(1, 0, 5) ahead of BAD_VALUE", x.stamp(1, 0, 5), UNKNOWN);
        due("stamp(0, 2, 5) ahead of BAD_VALUE", x.stamp(0, 2, 5), UNKNOWN);
        due("stamp(0, -1, -1) ahead of BAD_VALUE", x.stamp(0, -1, -1), UNKNOWN);
        says("BAD_VALUE");
        for (int what : new int[] {-1, 5, 6, 1 << 16, Integer.MIN_VALUE, Integer.MAX_VALUE}) {
            due("stamp(0, 1, " + what + ")", x.stamp(0, 1, what), BAD_VALUE);
        }
    }

    private void rankOfAStamp() {
        says("`rank`: from 0, the oldest one first");
        for (int stamps = 0; stamps <= 16; stamps++) {
            BorderStamps x = Ready.stamped(stamps);
            due("stamp(0, -1, 0) of " + stamps, x.stamp(0, -1, 0), UNKNOWN);
            due("stamp(0, " + stamps + ", 0) of as many", x.stamp(0, stamps, 0), UNKNOWN);
            for (int rank = 0; rank < stamps; rank++) {
                due("stamp(0, " + rank + ", 0) of " + stamps, x.stamp(0, rank, 0), 0);
            }
        }
        BorderStamps x = Ready.stamped(16);
        for (int rank : new int[] {16, 17, 32, 1 << 16, Integer.MIN_VALUE, Integer.MAX_VALUE}) {
            due("stamp(0, " + rank + ", 0)", x.stamp(0, rank, 0), UNKNOWN);
        }
        BorderStamps y = Ready.traveller();
        for (int i = 0; i < 8; i++) {
            y.cross(0, i % 2 == 0 ? 1 : 0, 0);
            y.pass(1);
        }
        for (int rank = 0; rank < 16; rank++) {
            due("stamp(0, " + rank + ", 0), the oldest one first", y.stamp(0, rank, 0), rank / 2);
        }
    }

    private void whatOfAStamp() {
        says("`what`: 0 for its day, 1 for its country, 2 for whether it is an entry (1) or an exit (0), 3 for whether it does"
            + " not fit (1, otherwise 0), 4 for its leaf, 0 to 3");
        BorderStamps x = Ready.busy();
        int[][] due = {{0, 0, 0, 0, 0}, {0, 1, 1, 0, 0}, {3, 2, 1, 1, 0}, {5, 2, 0, 0, 0}};
        for (int rank = 0; rank < 4; rank++) {
            for (int what = 0; what < 5; what++) {
                due("stamp(0, " + rank + ", " + what + ")", x.stamp(0, rank, what), due[rank][what]);
            }
        }
        says("Returns the number");
        BorderStamps y = Ready.onDay(Ready.traveller(), 999);
        y.cross(0, 5, 0);
        due("stamp(0, 1, 0), of the last day", y.stamp(0, 1, 0), 999);
        due("stamp(0, 1, 1), of the last country", y.stamp(0, 1, 1), 5);
        due("stamp(0, 15, 4), of the last leaf", Ready.stamped(16).stamp(0, 15, 4), 3);
    }

    private void bookThatHeHas() {
        says("Tells a stamp of the book that the holder has.");
        BorderStamps x = Ready.stamped(16);
        x.renew(0);
        due("stamp(0, 0, 0)", x.stamp(0, 0, 0), UNKNOWN);
        x.pass(4);
        x.cross(0, 2, 1);
        due("stamp(0, 0, 0)", x.stamp(0, 0, 0), 4);
        due("stamp(0, 0, 1)", x.stamp(0, 0, 1), 2);
        due("stamp(0, 1, 0)", x.stamp(0, 1, 0), UNKNOWN);
    }

    // ---- promise 18

    private void visa() {
        promise = "Promise 18";
        eachPassport("visa()", (x, passport) -> x.visa(passport, next(passport), 3), 1);
        eachCountry("visa()", (x, country) -> x.visa(0, country, 2), 9);
        whatOfAVisa();
        says("UNKNOWN (passport or country)");
        BorderStamps x = Ready.traveller();
        due("visa(1, 1, 5) ahead of BAD_VALUE", x.visa(1, 1, 5), UNKNOWN);
        due("visa(0, 6, 5) ahead of BAD_VALUE", x.visa(0, 6, 5), UNKNOWN);
        due("visa(0, 6, 0) ahead of NONE", x.visa(0, 6, 0), UNKNOWN);
        says("BAD_VALUE");
        for (int what : new int[] {-1, 5, 6, 1 << 16, Integer.MIN_VALUE, Integer.MAX_VALUE}) {
            due("visa(0, 1, " + what + ")", x.visa(0, 1, what), BAD_VALUE);
            due("visa(0, 0, " + what + ") ahead of NONE", x.visa(0, 0, what), BAD_VALUE);
        }
        says("NONE if there is no visa");
        x.revoke(0, 1);
        for (int what = 0; what < 5; what++) {
            due("visa(0, 1, " + what + "), taken back", x.visa(0, 1, what), NONE);
            due("visa(0, 0, " + what + "), the home", x.visa(0, 0, what), NONE);
        }
        Ready.onDay(x, 999);
        x.grant(0, 2, 0, 1, 1);
        due("visa(0, 2, 0), which is there though its span is over", x.visa(0, 2, 0), 0);
    }

    private void whatOfAVisa() {
        says("`what`: 0 for its first day, 1 for its last one, 2 for its days, 3 for the used ones, 4 for whether it is valid"
            + " today (1, otherwise 0)");
        BorderStamps x = Ready.traveller();
        x.grant(0, 1, 2, 4, 1);
        int[][] due = {{2, 4, 1, 0, 0}, {2, 4, 1, 0, 0}, {2, 4, 1, 0, 1}, {2, 4, 1, 1, 1}, {2, 4, 1, 2, 1}, {2, 4, 1, 3, 0}};
        for (int day = 0; day < due.length; day++) {
            for (int what = 0; what < 5; what++) {
                due("visa(0, 1, " + what + ") on day " + day, x.visa(0, 1, what), due[day][what]);
            }
            x.cross(0, 1, 0);
            x.pass(1);
        }
        due("visa(0, 1, 3), no day behind its span", x.visa(0, 1, 3), 3);
        says("Returns the number");
        x.grant(0, 2, 999, 999, 99);
        due("visa(0, 2, 0)", x.visa(0, 2, 0), 999);
        due("visa(0, 2, 1)", x.visa(0, 2, 1), 999);
        due("visa(0, 2, 2)", x.visa(0, 2, 2), 99);
    }

    // ---- promise 19

    private void reason() {
        promise = "Promise 19";
        eachPassport("reason()", (x, passport) -> x.reason(passport, next(passport)), 1);
        eachCountry("reason()", (x, country) -> x.reason(0, country), 0);
        noReason();
        firstReason();
        roomForTwoStamps();
        says("UNKNOWN (passport or country)");
        due("reason(1, 6)", Ready.traveller().reason(1, 6), UNKNOWN);
        due("reason(-1, 0)", Ready.traveller().reason(-1, 0), UNKNOWN);
        due("reason(0, -1)", Ready.traveller().reason(0, -1), UNKNOWN);
    }

    private void noReason() {
        says("Returns 0 if it is possible");
        BorderStamps x = Ready.stamped(13);
        due("reason(0, 0), home, behind 13 stamps", x.reason(0, 0), 0);
        due("reason(0, 2)", x.reason(0, 2), 0);
        due("reason(0, 0) behind 14 stamps", Ready.stamped(14).reason(0, 0), 0);
        due("reason(0, 0) behind 59 crossings", Ready.crossed(59).reason(0, 0), 0);
        x.grant(0, 2, 0, 0, 1);
        due("reason(0, 2), on the one day with the one day", x.reason(0, 2), 0);
    }

    private void firstReason() {
        says("the first that holds: 1 the holder is there, 2 the border is closed, 3 it is not the home, and there is no visa"
            + " that is valid today, 4 its days are used, 5 the book has no room for two stamps (for cross(): for those that"
            + " would be made), 6 the holder crossed 60 times");
        BorderStamps x = Ready.traveller();
        x.grant(0, 1, 0, 0, 1);
        x.cross(0, 1, 0);
        x.pass(1);
        due("reason(0, 1), where he is, without a valid visa", x.reason(0, 1), 1);
        x.cross(0, 0, 0);
        for (int i = 0; i < 6; i++) {
            x.cross(0, i % 2 == 0 ? 2 : 0, 0);
        }
        due("passport(0, 3)", x.passport(0, 3), 16);
        x.grant(0, 1, 0, 99, 1);
        x.turnBorder(0, 1);
        x.revoke(0, 3);
        x.turnBorder(0, 3);
        due("reason(0, 0), 1 ahead of 5", x.reason(0, 0), 1);
        due("reason(0, 1), 2 ahead of 4", x.reason(0, 1), 2);
        due("reason(0, 3), 2 ahead of 3", x.reason(0, 3), 2);
        x.turnBorder(0, 1);
        x.turnBorder(0, 3);
        due("reason(0, 1), 4 ahead of 5", x.reason(0, 1), 4);
        due("reason(0, 3), 3 ahead of 5", x.reason(0, 3), 3);
        due("reason(0, 2), 5", x.reason(0, 2), 5);
        x = Ready.crossed(Ready.stamped(16), 52, 3);
        due("reason(0, 2), 5 ahead of 6", x.reason(0, 2), 5);
        x.renew(0);
        due("reason(0, 2), 6", x.reason(0, 2), 6);
        x.revoke(0, 2);
        due("reason(0, 2), 3 ahead of 6", x.reason(0, 2), 3);
        due("reason(0, 0), 1 ahead of 6", x.reason(0, 0), 1);
    }

    private void roomForTwoStamps() {
        says("5 the book has no room for two stamps");
        for (int stamps = 12; stamps <= 16; stamps++) {
            BorderStamps x = Ready.stamped(stamps);
            due("reason(0, 2) behind " + stamps, x.reason(0, 2), stamps > 14 ? 5 : 0);
        }
        BorderStamps x = Ready.stamped(16);
        x.renew(0);
        due("reason(0, 2) with a new book", x.reason(0, 2), 0);
    }

    // ---- promise 20

    private void stay() {
        promise = "Promise 20";
        eachPassport("stay()", (x, passport) -> x.stay(passport, next(passport), 0, 9, true), 1);
        eachCountry("stay()", (x, country) -> x.stay(0, country, 0, 9, false), 0);
        firstDayOfASpan();
        lastDayOfASpan();
        toldOrReally();
        stayOnDaysThatEnded();
        says("UNKNOWN (passport or country)");
        BorderStamps x = Ready.traveller();
        due("stay(1, 0, 5, 4, true) ahead of BAD_VALUE", x.stay(1, 0, 5, 4, true), UNKNOWN);
        due("stay(0, 6, -1, 4, false) ahead of BAD_VALUE", x.stay(0, 6, -1, 4, false), UNKNOWN);
        says("BAD_VALUE");
        due("stay(0, 0, 5, 4, true)", x.stay(0, 0, 5, 4, true), BAD_VALUE);
        due("stay(0, 0, 1000, 999, false)", x.stay(0, 0, 1000, 999, false), BAD_VALUE);
        due("stay(0, 0, 999, 999, false)", x.stay(0, 0, 999, 999, false), 0);
    }

    /** In 1 on the days 2 to 4, of which stamps tell; it is day 7. */
    private BorderStamps threeDays() {
        BorderStamps x = Ready.onDay(Ready.traveller(), 2);
        x.cross(0, 1, 0);
        x.pass(3);
        x.cross(0, 0, 0);
        x.pass(2);
        return x;
    }

    private void firstDayOfASpan() {
        says("`from`: 0 to 999");
        BorderStamps x = threeDays();
        int[] due = {3, 3, 3, 2, 1, 0, 0, 0};
        for (int from = 0; from < due.length; from++) {
            due("stay(0, 1, " + from + ", 999, true)", x.stay(0, 1, from, 999, true), due[from]);
            due("stay(0, 1, " + from + ", 999, false)", x.stay(0, 1, from, 999, false), due[from]);
        }
        words.dueOfEach(Ready.BEYOND_999, "stay(), from", (y, day) -> y.stay(0, 0, day, 999, true), BAD_VALUE);
        words.dueOfEach(Ready.BEYOND_999, "stay(), both", (y, day) -> y.stay(0, 0, day, day, false), BAD_VALUE);
    }

    private void lastDayOfASpan() {
        says("`until`: from to 999");
        BorderStamps x = threeDays();
        int[] due = {0, 0, 1, 2, 3, 3, 3, 3};
        for (int until = 0; until < due.length; until++) {
            due("stay(0, 1, 0, " + until + ", true)", x.stay(0, 1, 0, until, true), due[until]);
            due("stay(0, 1, 0, " + until + ", false)", x.stay(0, 1, 0, until, false), due[until]);
            due("stay(0, 1, " + until + ", " + until + ", true), of one day", x.stay(0, 1, until, until, true),
                until >= 2 && until <= 4 ? 1 : 0);
            due("stay(0, 1, " + (until + 1) + ", " + until + ", true)", x.stay(0, 1, until + 1, until, true), BAD_VALUE);
        }
        words.dueOfEach(Ready.BEYOND_999, "stay(), until", (y, day) -> y.stay(0, 0, 0, day, true), BAD_VALUE);
    }

    private void toldOrReally() {
        says("`told`: whether the stamps of the book that the holder has tell it (days ahead of its beginning do not count),"
            + " otherwise where he really was (from the day on which the passport was issued)");
        BorderStamps x = Ready.onDay(new BorderStamps(), 2);
        x.issue(0);
        x.grant(0, 1, 0, 999, 99);
        x.pass(3);
        due("stay(0, 0, 0, 999, true), from day 2 on", x.stay(0, 0, 0, 999, true), 3);
        due("stay(0, 0, 0, 999, false), from day 2 on", x.stay(0, 0, 0, 999, false), 3);
        due("stay(0, 0, 0, 1, false), ahead of it", x.stay(0, 0, 0, 1, false), 0);
        due("stay(0, 0, 2, 2, false), on it", x.stay(0, 0, 2, 2, false), 1);
        x.cross(0, 1, 3);
        x.pass(4);
        due("stay(0, 0, 0, 999, true), where he was not", x.stay(0, 0, 0, 999, true), 7);
        due("stay(0, 1, 0, 999, true)", x.stay(0, 1, 0, 999, true), 0);
        due("stay(0, 1, 0, 999, false), told by no stamp", x.stay(0, 1, 0, 999, false), 4);
        x.renew(0);
        due("stay(0, 0, 0, 999, true), of the new book", x.stay(0, 0, 0, 999, true), 0);
        due("stay(0, 0, 0, 999, false), of all books", x.stay(0, 0, 0, 999, false), 3);
        x.pass(1);
        due("stay(0, 1, 0, 999, true), from day 9 on", x.stay(0, 1, 0, 999, true), 1);
        due("stay(0, 1, 0, 8, true), ahead of its beginning", x.stay(0, 1, 0, 8, true), 0);
        due("stay(0, 1, 9, 9, true), on the day of it", x.stay(0, 1, 9, 9, true), 1);
        due("stay(0, 1, 0, 999, false)", x.stay(0, 1, 0, 999, false), 5);
    }

    private void stayOnDaysThatEnded() {
        says("Tells on how many days of a span that have ended a holder was in a country, as the day ended.");
        BorderStamps x = Ready.traveller();
        due("stay(0, 0, 0, 0, false) as the day has not ended", x.stay(0, 0, 0, 0, false), 0);
        x.cross(0, 1, 0);
        x.cross(0, 2, 0);
        x.cross(0, 1, 0);
        x.pass(1);
        x.cross(0, 2, 0);
        due("stay(0, 1, 0, 999, false)", x.stay(0, 1, 0, 999, false), 1);
        due("stay(0, 0, 0, 999, false), left on the day", x.stay(0, 0, 0, 999, false), 0);
        due("stay(0, 2, 0, 999, false), today", x.stay(0, 2, 0, 999, false), 0);
        due("stay(0, 2, 0, 999, true), today", x.stay(0, 2, 0, 999, true), 0);
        says("Returns how many");
        Ready.onDay(x, 999);
        due("stay(0, 2, 0, 999, true)", x.stay(0, 2, 0, 999, true), 998);
        due("stay(0, 2, 0, 999, false)", x.stay(0, 2, 0, 999, false), 998);
        due("stay(0, 2, 0, 998, false)", x.stay(0, 2, 0, 998, false), 998);
        due("stay(0, 2, 998, 998, false)", x.stay(0, 2, 998, 998, false), 1);
        due("stay(0, 2, 999, 999, false)", x.stay(0, 2, 999, 999, false), 0);
    }

    // ---- promise 21

    private void wayTo() {
        promise = "Promise 21";
        eachPassport("wayTo()", (x, passport) -> x.wayTo(passport, next(passport)), 0);
        eachCountry("wayTo()", (x, country) -> x.wayTo(0, country), 1);
        openBordersAlone();
        visaThatLetsHimIn();
        roomDoesNotMatter();
        longWays();
        says("UNKNOWN (passport or country)");
        BorderStamps x = Ready.traveller();
        x.revoke(0, 1);
        due("wayTo(1, 1) ahead of NONE", x.wayTo(1, 1), UNKNOWN);
        due("wayTo(0, 6) ahead of NONE", x.wayTo(0, 6), UNKNOWN);
        says("NONE if there is no way");
        BorderStamps y = Ready.sixHolders();
        for (int country = 0; country < 36; country++) {
            due("wayTo(" + country / 6 + ", " + country % 6 + ") without a visa", y.wayTo(country / 6, country % 6),
                country / 6 == country % 6 ? 0 : NONE);
        }
        due("wayTo(0, 1) without a visa", x.wayTo(0, 1), NONE);
        for (int other = 1; other < 6; other++) {
            x.turnBorder(0, other);
        }
        for (int other = 1; other < 6; other++) {
            due("wayTo(0, " + other + ") with all borders of 0 closed", x.wayTo(0, other), NONE);
        }
        due("wayTo(0, 0)", x.wayTo(0, 0), 0);
    }

    private void openBordersAlone() {
        says("by open borders");
        BorderStamps x = Ready.traveller();
        for (int other = 1; other < 5; other++) {
            x.turnBorder(5, other);
        }
        due("wayTo(0, 5)", x.wayTo(0, 5), 1);
        x.turnBorder(5, 0);
        due("wayTo(0, 5), all closed", x.wayTo(0, 5), NONE);
        x.turnBorder(3, 5);
        due("wayTo(0, 5) by 3", x.wayTo(0, 5), 2);
        x.turnBorder(0, 3);
        due("wayTo(0, 5) by another one and 3", x.wayTo(0, 5), 3);
    }

    private void visaThatLetsHimIn() {
        says("each country but the home by a visa that lets him in");
        BorderStamps x = new BorderStamps();
        x.issue(0);
        x.grant(0, 1, 0, 9, 1);
        x.grant(0, 2, 0, 9, 9);
        x.turnBorder(0, 2);
        due("wayTo(0, 2) by 1", x.wayTo(0, 2), 2);
        x.cross(0, 1, 0);
        x.pass(1);
        due("wayTo(0, 2) from 1, whose days are used", x.wayTo(0, 2), 1);
        due("wayTo(0, 1), where he is", x.wayTo(0, 1), 0);
        x.cross(0, 0, 0);
        due("wayTo(0, 2), 1 does not let him in", x.wayTo(0, 2), NONE);
        x.grant(0, 1, 1, 1, 1);
        due("wayTo(0, 2), on the visa's one day", x.wayTo(0, 2), 2);
        x.grant(0, 1, 2, 2, 1);
        due("wayTo(0, 2), ahead of it", x.wayTo(0, 2), NONE);
        x.grant(0, 1, 0, 0, 1);
        due("wayTo(0, 2), behind it", x.wayTo(0, 2), NONE);
        x.grant(0, 3, 1, 1, 1);
        x.cross(0, 3, 0);
        x.turnBorder(3, 2);
        x.turnBorder(0, 2);
        due("wayTo(0, 2) by the home, without a visa", x.wayTo(0, 2), 2);
    }

    private void roomDoesNotMatter() {
        says("room in the book and the number of crossings do not matter");
        BorderStamps x = Ready.full();
        due("reason(0, 1)", x.reason(0, 1), 5);
        due("wayTo(0, 1)", x.wayTo(0, 1), 1);
        x.turnBorder(0, 1);
        due("wayTo(0, 1)", x.wayTo(0, 1), 2);
        x.renew(0);
        due("reason(0, 2)", x.reason(0, 2), 6);
        due("wayTo(0, 2)", x.wayTo(0, 2), 1);
    }

    private void longWays() {
        says("Returns how many, 0 if he is there");
        BorderStamps x = Ready.traveller();
        int[] way = {0, 3, 5, 1, 4, 2};
        for (int country = 0; country < 6; country++) {
            for (int other = country + 1; other < 6; other++) {
                x.turnBorder(country, other);
            }
        }
        for (int i = 1; i < 6; i++) {
            due("wayTo(0, " + way[i] + ")", x.wayTo(0, way[i]), NONE);
            x.turnBorder(way[i - 1], way[i]);
            due("wayTo(0, " + way[i] + "), the longest of " + i, x.wayTo(0, way[i]), i);
        }
        x.turnBorder(0, 2);
        due("wayTo(0, 2), the short one", x.wayTo(0, 2), 1);
        due("wayTo(0, 4), the other way round", x.wayTo(0, 4), 2);
        for (int i = 1; i < 6; i++) {
            x.cross(0, way[i], 3);
            due("wayTo(0, " + way[i] + "), there", x.wayTo(0, way[i]), 0);
        }
    }

    // ---- promise 22

    private void daysLeft() {
        promise = "Promise 22";
        eachPassport("daysLeft()", (x, passport) -> x.daysLeft(passport, next(passport)), 8);
        eachCountry("daysLeft()", (x, country) -> x.daysLeft(0, country), 9);
        daysNotUsed();
        daysToTheLastOne();
        spanToCome();
        says("UNKNOWN (passport or country)");
        due("daysLeft(1, 0) ahead of NONE", Ready.traveller().daysLeft(1, 0), UNKNOWN);
        due("daysLeft(0, 6) ahead of NONE", Ready.traveller().daysLeft(0, 6), UNKNOWN);
        says("NONE if there is no visa");
        due("daysLeft(0, 0), the home", Ready.traveller().daysLeft(0, 0), NONE);
        BorderStamps y = Ready.traveller();
        y.revoke(0, 1);
        due("daysLeft(0, 1), taken back", y.daysLeft(0, 1), NONE);
    }

    private void daysNotUsed() {
        says("those that are not used");
        BorderStamps x = Ready.traveller();
        x.grant(0, 1, 0, 99, 3);
        x.cross(0, 1, 0);
        int[] due = {3, 2, 1, 0, 0, 0};
        for (int day = 0; day < due.length; day++) {
            due("daysLeft(0, 1) on day " + day, x.daysLeft(0, 1), due[day]);
            x.pass(1);
        }
        x.renew(0);
        due("daysLeft(0, 1) with a new book", x.daysLeft(0, 1), 3);
    }

    private void daysToTheLastOne() {
        says("but at most from today to its last day");
        BorderStamps x = Ready.traveller();
        x.grant(0, 1, 0, 4, 99);
        int[] due = {5, 4, 3, 2, 1, 0, 0};
        for (int day = 0; day < due.length; day++) {
            due("daysLeft(0, 1) on day " + day, x.daysLeft(0, 1), due[day]);
            x.pass(1);
        }
        x.grant(0, 1, 0, 999, 1);
        due("daysLeft(0, 1), its one day", x.daysLeft(0, 1), 1);
        Ready.onDay(x, 999);
        due("daysLeft(0, 2) on the last day of all", x.daysLeft(0, 2), 1);
        x.grant(0, 2, 0, 998, 9);
        due("daysLeft(0, 2) on the day behind it", x.daysLeft(0, 2), 0);
    }

    private void spanToCome() {
        says("or all of its span if that is to come");
        BorderStamps x = Ready.traveller();
        x.grant(0, 1, 3, 5, 99);
        x.grant(0, 2, 999, 999, 99);
        x.grant(0, 3, 1, 999, 99);
        x.grant(0, 4, 3, 5, 2);
        due("daysLeft(0, 2), a day", x.daysLeft(0, 2), 1);
        due("daysLeft(0, 3), its days", x.daysLeft(0, 3), 99);
        due("daysLeft(0, 4), fewer days than its span has", x.daysLeft(0, 4), 2);
        int[] due = {3, 3, 3, 3, 2, 1, 0};
        for (int day = 0; day < due.length; day++) {
            due("daysLeft(0, 1) on day " + day, x.daysLeft(0, 1), due[day]);
            x.pass(1);
        }
        says("Returns how many");
        x.grant(0, 1, 0, 999, 99);
        due("daysLeft(0, 1), as many as there can be", x.daysLeft(0, 1), 99);
    }

    // ---- promises 23 and 24

    private void mistold() {
        promise = "Promise 23";
        says("Tells the holders of whom the stamps tell something else than where they are.");
        BorderStamps x = Ready.sixHolders();
        for (int passport = 0; passport < 6; passport++) {
            x.grant(passport, (passport + 1) % 6, 0, 9, 9);
        }
        x.cross(0, 1, 0);
        x.cross(1, 2, 1);
        due("mistold(), the entries are stamped", x.mistold(), 0);
        x.cross(2, 3, 2);
        due("mistold(), told to be nowhere", x.mistold(), 4);
        x.cross(3, 4, 3);
        due("mistold(), told to be at home", x.mistold(), 12);
        x.cross(3, 3, 3);
        due("mistold(), home again, of which no stamp tells either", x.mistold(), 4);
        x.renew(2);
        due("mistold(), a new book", x.mistold(), 0);
        says("Returns the passports, as a set.");
        due("mistold() without any", new BorderStamps().mistold(), 0);
        BorderStamps y = Ready.sixHolders();
        int set = 0;
        for (int passport = 5; passport >= 0; passport--) {
            y.grant(passport, (passport + 1) % 6, 0, 9, 9);
            y.cross(passport, (passport + 1) % 6, 3);
            set += 1 << passport;
            due("mistold()", y.mistold(), set);
        }
        due("mistold(), all of them", y.mistold(), 63);
    }

    private void holders() {
        promise = "Promise 24";
        says("`country`: 0 to 5");
        BorderStamps x = Ready.sixHolders();
        for (int country = 0; country < 6; country++) {
            due("holders(" + country + ", true)", x.holders(country, true), 1 << country);
            due("holders(" + country + ", false)", x.holders(country, false), 1 << country);
        }
        says("`told`: whether the stamps tell it, otherwise where they really are");
        x.grant(4, 2, 0, 9, 9);
        x.cross(4, 2, 3);
        due("holders(4, true)", x.holders(4, true), 16);
        due("holders(4, false)", x.holders(4, false), 0);
        due("holders(2, true)", x.holders(2, true), 4);
        due("holders(2, false)", x.holders(2, false), 20);
        x.cross(4, 4, 2);
        for (int country = 0; country < 6; country++) {
            due("holders(" + country + ", true) without him who is told to be nowhere", x.holders(country, true),
                country == 4 ? 0 : 1 << country);
        }
        says("Returns the passports, as a set");
        BorderStamps y = new BorderStamps();
        due("holders(0, true) without any", y.holders(0, true), 0);
        for (int number = 0; number < 6; number++) {
            y.issue(5);
            due("holders(5, true) of " + (number + 1), y.holders(5, true), (2 << number) - 1);
            due("holders(5, false) of " + (number + 1), y.holders(5, false), (2 << number) - 1);
        }
        says("UNKNOWN");
        words.dueOfEach(Ready.BEYOND_5, "holders(), told", (z, country) -> z.holders(country, true), UNKNOWN);
        words.dueOfEach(Ready.BEYOND_5, "holders(), really", (z, country) -> z.holders(country, false), UNKNOWN);
        words.dueOfEach(new int[] {NONE}, "holders(), nowhere", (z, country) -> {
            z.cross(0, 1, 2);
            return z.holders(country, true);
        }, UNKNOWN);
    }

    // ---- promise 25

    private void count() {
        promise = "Promise 25";
        says("`what`: 0 for the day, 1 for passports, 2 for closed borders, 3 for crossings so far, 4 for overstays so far, 5"
            + " for stamps of all books that holders have, 6 for gaps of these, 7 for visas, 8 for those that are valid"
            + " today, 9 for stamps that were forgotten so far, 10 for the states in the history, 11 for the length of the"
            + " text");
        BorderStamps x = Ready.busy();
        int[] busy = {5, 2, 1, 4, 2, 4, 1, 5, 4, 3, 4, 4};
        for (int what = 0; what < 12; what++) {
            due("count(" + what + ") of a busy one", x.count(what), busy[what]);
        }
        x.pass(9);
        due("count(4)", x.count(4), 9);
        due("count(8), without the two whose span is over", x.count(8), 3);
        says("Returns the number");
        x = Ready.full();
        int[] full = {999, 6, 0, 60, 0, 16, 0, 5, 5, 104, 4, 60};
        for (int what = 0; what < 12; what++) {
            due("count(" + what + ") of a full one", x.count(what), full[what]);
        }
        x.renew(0);
        due("count(5), of the books that holders have", x.count(5), 0);
        due("count(3), so far", x.count(3), 60);
        due("count(9), so far", x.count(9), 104);
        says("BAD_VALUE");
        int[] beyond = {-1, 12, 13, 1 << 16, Integer.MIN_VALUE, Integer.MAX_VALUE};
        words.dueOfEach(beyond, "count()", (y, what) -> y.count(what), BAD_VALUE);
    }
}
