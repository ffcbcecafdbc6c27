/** Bureaus that tests begin with, and what they tell. */
final class Ready {
    /** Numbers of no country and no passport: just beyond, at the ends of int, and such as a shift of bits takes for 0 to 5. */
    static final int[] BEYOND_5 = {-1, 6, 7, 32, 36, 64, 256, -32, 1 << 16, Integer.MIN_VALUE, Integer.MAX_VALUE};
    /** Just beyond 0 to 999, and where sums or casts to short wrap around. */
    static final int[] BEYOND_999 = {-1, 1000, 1001, -1000, 1 << 16, Integer.MIN_VALUE, Integer.MAX_VALUE};
    /** Just beyond 1 to 99, and where sums or casts to byte wrap around. */
    static final int[] BEYOND_1_TO_99 = {0, -1, 100, 101, 256 + 1, (1 << 16) + 1, Integer.MIN_VALUE, Integer.MAX_VALUE};

    private Ready() {
    }

    /** One holder at home in 0, who may enter 1 to 5 at any time, for 99 days each. */
    static BorderStamps traveller() {
        BorderStamps x = new BorderStamps();
        x.issue(0);
        for (int country = 1; country < 6; country++) {
            x.grant(0, country, 0, 999, 99);
        }
        return x;
    }

    /** Six holders, each at home in the country of his number, without visas. */
    static BorderStamps sixHolders() {
        BorderStamps x = new BorderStamps();
        for (int home = 0; home < 6; home++) {
            x.issue(home);
        }
        return x;
    }

    /** A traveller between 0 and 1, whom officers forget to stamp. */
    static BorderStamps crossed(int times) {
        return crossed(traveller(), times, 3);
    }

    /** Holder 0 goes between 0, where he is, and 1. */
    static BorderStamps crossed(BorderStamps x, int times, int forgets) {
        for (int i = 0; i < times; i++) {
            x.cross(0, i % 2 == 0 ? 1 : 0, forgets);
        }
        return x;
    }

    /** A traveller's book with so many stamps. */
    static BorderStamps stamped(int stamps) {
        BorderStamps x = crossed(traveller(), stamps / 2, 0);
        if (stamps % 2 == 1) {
            x.cross(0, stamps / 2 % 2 == 0 ? 1 : 0, 1);
        }
        return x;
    }

    /** Lets days end until it is this day, which is not behind today. */
    static BorderStamps onDay(BorderStamps x, int day) {
        while (x.count(0) < day) {
            x.pass(Math.min(99, day - x.count(0)));
        }
        return x;
    }

    /** Two holders behind a while: gaps, overstays, a closed border, a text, a stop, a history and a snapshot. */
    static BorderStamps busy() {
        BorderStamps x = traveller();
        x.issue(3);
        x.revoke(0, 5);
        x.turnBorder(4, 2);
        x.grant(0, 1, 0, 3, 1);
        x.cross(0, 1, 0);
        x.pass(3);
        x.cross(0, 2, 1);
        Due.perform(x, ".1;x02");
        x.grant(1, 0, 4, 9, 2);
        x.keep();
        x.pass(2);
        x.cross(1, 0, 2);
        x.cross(0, 3, 2);
        x.renew(1);
        Due.write(x, "x04!");
        return x;
    }

    /** No room for anything: six holders, day 999, a full text, a full book and 60 crossings of holder 0. */
    static BorderStamps full() {
        BorderStamps x = crossed(stamped(16), 52, 3);
        for (int home = 1; home < 6; home++) {
            x.issue(home);
        }
        onDay(x, 999);
        Due.write(x, ".".repeat(60));
        return x;
    }

    /** All that is told, at length of two holders alone, so that the calls stay within the 512; it uses the history up. */
    static String told(BorderStamps x) {
        StringBuilder told = new StringBuilder();
        tellState(x, told);
        for (int country = 0; country < 6; country++) {
            told.append(" at ").append(x.holders(country, true)).append(' ').append(x.holders(country, false));
            for (int passport = 0; passport < 2; passport++) {
                tellVisa(x, passport, country, told);
            }
        }
        tellStamps(x, told);
        told.append(" stop ").append(x.stopped(0)).append(' ').append(x.stopped(1));
        for (int i = 0; i < 5; i++) {
            told.append(" undo ").append(x.undo());
            tellState(x, told);
        }
        told.append(" restore ").append(x.restore());
        tellState(x, told);
        return told.toString();
    }

    private static void tellState(BorderStamps x, StringBuilder told) {
        told.append("\ncounts");
        for (int what = 0; what < 12; what++) {
            told.append(' ').append(x.count(what));
        }
        told.append(" mistold ").append(x.mistold());
    }

    private static void tellVisa(BorderStamps x, int passport, int country, StringBuilder told) {
        told.append(" visa");
        for (int what = 0; what < 5; what++) {
            told.append(' ').append(x.visa(passport, country, what));
        }
        told.append(" reason ").append(x.reason(passport, country)).append(" way ").append(x.wayTo(passport, country));
        told.append(" left ").append(x.daysLeft(passport, country));
        told.append(" stay ").append(x.stay(passport, country, 0, 999, true));
        told.append(' ').append(x.stay(passport, country, 0, 999, false));
    }

    private static void tellStamps(BorderStamps x, StringBuilder told) {
        for (int passport = 0; passport < 2; passport++) {
            for (int what = 0; what < 9; what++) {
                told.append(' ').append(x.passport(passport, what));
            }
            int stamps = x.passport(passport, 3);
            for (int rank = 0; rank < stamps; rank++) {
                for (int what = 0; what < 4; what++) {
                    told.append(' ').append(x.stamp(passport, rank, what));
                }
            }
        }
    }
}
