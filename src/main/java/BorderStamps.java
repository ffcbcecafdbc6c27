/** A passport bureau whose stamps must add up to where the holder stands (../shared/DOC.md says what it promises). */
public final class BorderStamps {
    public static final int UNKNOWN = -1;
    public static final int BAD_VALUE = -2;
    public static final int FULL = -3;
    public static final int NOT_POSSIBLE = -4;
    public static final int NONE = -5;
    public static final int REFUSED = -10;

    private static final int FAULT = -100;

    private static final int COUNTRIES = 6;
    private static final int PASSPORTS = 6;
    private static final int LAST_DAY = 999;
    private static final int MOST_DAYS = 99;
    private static final int MOST_CROSSINGS = 60;
    private static final int STAMPS_OF_A_LEAF = 4;
    private static final int STAMPS_OF_A_BOOK = 16;
    private static final int STAMPS_OF_A_CROSSING = 2;
    private static final int EXIT_FORGOTTEN = 1;
    private static final int ENTRY_FORGOTTEN = 2;
    private static final int TEXT_ROOM = 60;
    private static final int HISTORY_ROOM = 4;

    // The same number as NONE, so that it can be answered as it is.
    private static final int NOWHERE = NONE;

    private final State now;
    private final State[] history;
    private int remembered;
    // Holds the state ahead of an act until it is clear whether the act is done;
    // it changes places with a row of the history, so that no act makes a new one.
    private State before;
    private final State snapshot;
    private boolean hasSnapshot;
    private final Text text;
    private int stopNumber;
    // 0 until there is a stop: an error is never 0.
    private int stopError;

    public BorderStamps() {
        now = new State();
        before = new State();
        snapshot = new State();
        history = new State[HISTORY_ROOM];
        for (int i = 0; i < history.length; i++) {
            history[i] = new State();
        }
        text = new Text();
    }

    // ---- passports, visas, borders

    public int issue(int home) {
        before.copyFrom(now);
        return recorded(now.addHolder(home));
    }

    public int renew(int passport) {
        before.copyFrom(now);
        return recorded(now.giveBook(passport));
    }

    public int grant(int passport, int country, int from, int until, int days) {
        before.copyFrom(now);
        return recorded(now.giveVisa(passport, country, from, until, days));
    }

    public int revoke(int passport, int country) {
        before.copyFrom(now);
        return recorded(now.takeVisa(passport, country));
    }

    public int turnBorder(int country, int other) {
        before.copyFrom(now);
        return recorded(now.flipBorder(country, other));
    }

    // ---- crossings, days

    public int cross(int passport, int country, int forgets) {
        before.copyFrom(now);
        return recorded(now.moveHolder(passport, country, forgets));
    }

    public int pass(int days) {
        before.copyFrom(now);
        return recorded(now.endDays(days));
    }

    // ---- texts

    public int type(char character) {
        return text.append(character);
    }

    public int clearText() {
        return text.empty();
    }

    public int perform() {
        int fault = text.findFault();
        if (fault != Text.NO_FAULT) {
            return FAULT - fault;
        }
        before.copyFrom(now);
        int things = text.things;
        text.goToStart();
        for (int number = 0; number < things; number++) {
            int answer = doNextThing();
            if (answer < 0) {
                now.copyFrom(before);
                stopNumber = number;
                stopError = answer;
                return NOT_POSSIBLE;
            }
        }
        return recorded(things);
    }

    public int stopped(int what) {
        if (!isWithin(what, 0, 1)) {
            return BAD_VALUE;
        }
        if (stopError == 0) {
            return NONE;
        }
        return what == 0 ? stopNumber : stopError;
    }

    // ---- history

    public int undo() {
        if (remembered == 0) {
            return NONE;
        }
        remembered--;
        now.copyFrom(history[remembered]);
        return remembered;
    }

    public int keep() {
        snapshot.copyFrom(now);
        hasSnapshot = true;
        return now.day;
    }

    public int restore() {
        if (!hasSnapshot) {
            return NONE;
        }
        before.copyFrom(now);
        now.copyFrom(snapshot);
        return recorded(now.day);
    }

    // ---- what is told

    public int passport(int passport, int what) {
        Holder holder = now.holderOf(passport);
        if (holder == null) {
            return UNKNOWN;
        }
        switch (what) {
            case 0: return holder.home;
            case 1: return holder.place();
            case 2: return holder.toldPlace();
            case 3: return holder.book.stamps();
            case 4: return holder.book.gaps();
            case 5: return holder.crossings();
            case 6: return holder.overstays;
            case 7: return holder.books;
            case 8: return holder.visasHeld();
            default: return BAD_VALUE;
        }
    }

    public int stamp(int passport, int rank, int what) {
        Holder holder = now.holderOf(passport);
        if (holder == null || !holder.book.hasStamp(rank)) {
            return UNKNOWN;
        }
        Book book = holder.book;
        switch (what) {
            case 0: return book.dayOf(rank);
            case 1: return book.countryOf(rank);
            case 2: return book.isEntry(rank) ? 1 : 0;
            case 3: return book.isGap(rank) ? 1 : 0;
            case 4: return rank / STAMPS_OF_A_LEAF;
            default: return BAD_VALUE;
        }
    }

    public int visa(int passport, int country, int what) {
        Holder holder = now.holderOf(passport);
        if (holder == null || !isCountry(country)) {
            return UNKNOWN;
        }
        if (!isWithin(what, 0, 4)) {
            return BAD_VALUE;
        }
        Visa visa = holder.visaFor(country);
        if (visa == null) {
            return NONE;
        }
        switch (what) {
            case 0: return visa.from;
            case 1: return visa.until;
            case 2: return visa.days;
            case 3: return holder.usedDays(visa, now.day);
            default: return visa.isValidOn(now.day) ? 1 : 0;
        }
    }

    public int reason(int passport, int country) {
        Holder holder = now.holderOf(passport);
        if (holder == null || !isCountry(country)) {
            return UNKNOWN;
        }
        return now.reasonAgainst(holder, country, STAMPS_OF_A_CROSSING);
    }

    public int stay(int passport, int country, int from, int until, boolean told) {
        Holder holder = now.holderOf(passport);
        if (holder == null || !isCountry(country)) {
            return UNKNOWN;
        }
        if (!isSpan(from, until)) {
            return BAD_VALUE;
        }
        Trail trail = told ? holder.book.told : holder.journey;
        return trail.daysIn(country, from, Math.min(until, now.day - 1));
    }

    public int wayTo(int passport, int country) {
        Holder holder = now.holderOf(passport);
        if (holder == null || !isCountry(country)) {
            return UNKNOWN;
        }
        return now.fewestCrossings(holder, country);
    }

    public int daysLeft(int passport, int country) {
        Holder holder = now.holderOf(passport);
        if (holder == null || !isCountry(country)) {
            return UNKNOWN;
        }
        Visa visa = holder.visaFor(country);
        if (visa == null) {
            return NONE;
        }
        int unused = Math.max(visa.days - holder.usedDays(visa, now.day), 0);
        int ahead = Math.max(visa.until - Math.max(visa.from, now.day) + 1, 0);
        return Math.min(unused, ahead);
    }

    public int mistold() {
        int set = 0;
        for (int i = 0; i < now.issued; i++) {
            Holder holder = now.holders[i];
            if (holder.toldPlace() != holder.place()) {
                set |= 1 << i;
            }
        }
        return set;
    }

    public int holders(int country, boolean told) {
        if (!isCountry(country)) {
            return UNKNOWN;
        }
        int set = 0;
        for (int i = 0; i < now.issued; i++) {
            Holder holder = now.holders[i];
            int place = told ? holder.toldPlace() : holder.place();
            if (place == country) {
                set |= 1 << i;
            }
        }
        return set;
    }

    public int count(int what) {
        switch (what) {
            case 0: return now.day;
            case 1: return now.issued;
            case 2: return now.closedBorders();
            case 9: return now.forgotten;
            case 10: return remembered;
            case 11: return text.length;
            default: return isWithin(what, 3, 8) ? sumOverHolders(what) : BAD_VALUE;
        }
    }

    private int sumOverHolders(int what) {
        int sum = 0;
        for (int i = 0; i < now.issued; i++) {
            Holder holder = now.holders[i];
            switch (what) {
                case 3: sum += holder.crossings(); break;
                case 4: sum += holder.overstays; break;
                case 5: sum += holder.book.stamps(); break;
                case 6: sum += holder.book.gaps(); break;
                case 7: sum += holder.visasHeld(); break;
                default: sum += holder.visasValidOn(now.day); break;
            }
        }
        return sum;
    }

    private int doNextThing() {
        // What findFault() has read once can be read again, so this can't fail.
        text.readNext();
        switch (text.kind) {
            case Text.CROSSING: return now.moveHolder(text.passport, text.country, text.forgets);
            case Text.VISA: return now.giveVisa(text.passport, text.country, text.from, text.until, text.days);
            default: return now.endDays(text.days);
        }
    }

    /** What every act ends with: its answer is not negative just if it is neither an error nor NONE. */
    private int recorded(int answer) {
        if (answer < 0) {
            return answer;
        }
        if (remembered == HISTORY_ROOM) {
            dropOldest();
        }
        State free = history[remembered];
        history[remembered] = before;
        before = free;
        remembered++;
        return answer;
    }

    private void dropOldest() {
        State oldest = history[0];
        for (int i = 1; i < HISTORY_ROOM; i++) {
            history[i - 1] = history[i];
        }
        history[HISTORY_ROOM - 1] = oldest;
        remembered--;
    }

    private static boolean isWithin(int value, int least, int most) {
        return value >= least && value <= most;
    }

    private static boolean isCountry(int country) {
        return isWithin(country, 0, COUNTRIES - 1);
    }

    private static boolean isSpan(int from, int until) {
        return isWithin(from, 0, LAST_DAY) && isWithin(until, from, LAST_DAY);
    }

    /** All that undo() and restore() bring back. Its acts do not touch the history: perform() does many as one. */
    private static final class State {
        int day;
        int issued;
        int forgotten;
        // One bit for each two countries.
        private long closed;
        final Holder[] holders;

        State() {
            holders = new Holder[PASSPORTS];
            for (int i = 0; i < holders.length; i++) {
                holders[i] = new Holder();
            }
        }

        void copyFrom(State other) {
            day = other.day;
            issued = other.issued;
            forgotten = other.forgotten;
            closed = other.closed;
            for (int i = 0; i < issued; i++) {
                holders[i].copyFrom(other.holders[i]);
            }
        }

        Holder holderOf(int passport) {
            return isWithin(passport, 0, issued - 1) ? holders[passport] : null;
        }

        int closedBorders() {
            return Long.bitCount(closed);
        }

        int addHolder(int home) {
            if (!isCountry(home)) {
                return UNKNOWN;
            }
            if (issued >= PASSPORTS) {
                return FULL;
            }
            holders[issued].begin(home, day);
            issued++;
            return issued - 1;
        }

        int giveBook(int passport) {
            Holder holder = holderOf(passport);
            if (holder == null) {
                return UNKNOWN;
            }
            int stamps = holder.book.stamps();
            holder.beginBook(day);
            return stamps;
        }

        int giveVisa(int passport, int country, int from, int until, int days) {
            Holder holder = holderOf(passport);
            if (holder == null || !isCountry(country)) {
                return UNKNOWN;
            }
            if (!isSpan(from, until) || !isWithin(days, 1, MOST_DAYS)) {
                return BAD_VALUE;
            }
            if (country == holder.home) {
                return NOT_POSSIBLE;
            }
            Visa visa = new Visa(country, from, until, days);
            holder.setVisa(country, visa);
            return holder.usedDays(visa, day);
        }

        int takeVisa(int passport, int country) {
            Holder holder = holderOf(passport);
            if (holder == null || !isCountry(country)) {
                return UNKNOWN;
            }
            Visa visa = holder.visaFor(country);
            if (visa == null) {
                return NONE;
            }
            holder.setVisa(country, null);
            return holder.usedDays(visa, day);
        }

        int flipBorder(int country, int other) {
            if (!isCountry(country) || !isCountry(other)) {
                return UNKNOWN;
            }
            if (country == other) {
                return BAD_VALUE;
            }
            closed ^= borderBit(country, other);
            return closedBorders();
        }

        int moveHolder(int passport, int country, int forgets) {
            Holder holder = holderOf(passport);
            if (holder == null || !isCountry(country)) {
                return UNKNOWN;
            }
            if (!isWithin(forgets, 0, EXIT_FORGOTTEN | ENTRY_FORGOTTEN)) {
                return BAD_VALUE;
            }
            int missing = Integer.bitCount(forgets);
            int reason = reasonAgainst(holder, country, STAMPS_OF_A_CROSSING - missing);
            if (reason != 0) {
                return REFUSED - reason;
            }
            if ((forgets & EXIT_FORGOTTEN) == 0) {
                holder.book.addExit(holder.place(), day);
            }
            if ((forgets & ENTRY_FORGOTTEN) == 0) {
                holder.book.addEntry(country, day);
            }
            holder.journey.add(country, day);
            forgotten += missing;
            return holder.book.stamps();
        }

        int endDays(int days) {
            if (!isWithin(days, 1, MOST_DAYS)) {
                return BAD_VALUE;
            }
            if (day + days > LAST_DAY) {
                return FULL;
            }
            int overstays = 0;
            for (int i = 0; i < days; i++) {
                overstays += endDay();
            }
            return overstays;
        }

        private int endDay() {
            int overstays = 0;
            for (int i = 0; i < issued; i++) {
                Holder holder = holders[i];
                if (!holder.mayBeIn(holder.place(), day)) {
                    holder.overstays++;
                    overstays++;
                }
            }
            day++;
            return overstays;
        }

        /** Why the holder can't cross, if the crossing makes so many stamps; 0 if he can. */
        int reasonAgainst(Holder holder, int country, int stamps) {
            if (holder.place() == country) {
                return 1;
            }
            if (!isOpen(holder.place(), country)) {
                return 2;
            }
            if (country != holder.home && !holder.hasValidVisa(country, day)) {
                return 3;
            }
            if (!holder.mayBeIn(country, day)) {
                return 4;
            }
            if (holder.book.stamps() + stamps > STAMPS_OF_A_BOOK) {
                return 5;
            }
            return holder.crossings() >= MOST_CROSSINGS ? 6 : 0;
        }

        int fewestCrossings(Holder holder, int country) {
            int reached = 1 << holder.place();
            for (int crossings = 0; crossings < COUNTRIES; crossings++) {
                if ((reached & (1 << country)) != 0) {
                    return crossings;
                }
                reached |= oneCrossingFrom(reached, holder);
            }
            return NONE;
        }

        private int oneCrossingFrom(int reached, Holder holder) {
            int next = 0;
            for (int country = 0; country < COUNTRIES; country++) {
                if (holder.mayBeIn(country, day) && isBesideOneOf(reached, country)) {
                    next |= 1 << country;
                }
            }
            return next;
        }

        private boolean isBesideOneOf(int set, int country) {
            for (int other = 0; other < COUNTRIES; other++) {
                if ((set & (1 << other)) != 0 && isOpen(other, country)) {
                    return true;
                }
            }
            return false;
        }

        private boolean isOpen(int country, int other) {
            return (closed & borderBit(country, other)) == 0;
        }

        private static long borderBit(int country, int other) {
            return 1L << (Math.min(country, other) * COUNTRIES + Math.max(country, other));
        }
    }

    private static final class Holder {
        int home;
        int overstays;
        int books;
        // Where he really is, beginning at home.
        final Trail journey;
        final Book book;
        // By country; null where there is none. A visa never changes, so states can share it.
        private final Visa[] visas;

        Holder() {
            journey = new Trail(MOST_CROSSINGS);
            book = new Book();
            visas = new Visa[COUNTRIES];
        }

        void copyFrom(Holder other) {
            home = other.home;
            overstays = other.overstays;
            books = other.books;
            journey.copyFrom(other.journey);
            book.copyFrom(other.book);
            for (int i = 0; i < COUNTRIES; i++) {
                visas[i] = other.visas[i];
            }
        }

        // The row may have been another holder's, before an undo().
        void begin(int country, int day) {
            home = country;
            overstays = 0;
            books = 0;
            journey.begin(country, day);
            for (int i = 0; i < COUNTRIES; i++) {
                visas[i] = null;
            }
            beginBook(day);
        }

        void beginBook(int day) {
            book.begin(place(), day);
            books++;
        }

        int place() {
            return journey.lastPlace();
        }

        int toldPlace() {
            return book.told.lastPlace();
        }

        int crossings() {
            return journey.steps;
        }

        Visa visaFor(int country) {
            return country >= 0 && country < visas.length ? visas[country] : null;
        }

        void setVisa(int country, Visa visa) {
            if (country >= 0 && country < visas.length) {
                visas[country] = visa;
            }
        }

        int usedDays(Visa visa, int today) {
            return book.told.daysIn(visa.country, visa.from, Math.min(visa.until, today - 1));
        }

        boolean hasValidVisa(int country, int day) {
            Visa visa = visaFor(country);
            return visa != null && visa.isValidOn(day);
        }

        /** At home, or by a valid visa with days left: what entering asks for, and what a day's end does. */
        boolean mayBeIn(int country, int day) {
            if (country == home) {
                return true;
            }
            Visa visa = visaFor(country);
            return visa != null && visa.isValidOn(day) && usedDays(visa, day) < visa.days;
        }

        int visasHeld() {
            int held = 0;
            for (int i = 0; i < COUNTRIES; i++) {
                if (visaFor(i) != null) {
                    held++;
                }
            }
            return held;
        }

        int visasValidOn(int day) {
            int valid = 0;
            for (int i = 0; i < COUNTRIES; i++) {
                if (hasValidVisa(i, day)) {
                    valid++;
                }
            }
            return valid;
        }
    }

    private static final class Visa {
        final int country;
        final int from;
        final int until;
        final int days;

        Visa(int country, int from, int until, int days) {
            this.country = country;
            this.from = from;
            this.until = until;
            this.days = days;
        }

        boolean isValidOn(int day) {
            return isWithin(day, from, until);
        }
    }

    private static final class Book {
        // A stamp is a step of this: to its country for an entry, to nowhere for an exit.
        final Trail told;
        private final int[] countries;

        Book() {
            told = new Trail(STAMPS_OF_A_BOOK);
            countries = new int[STAMPS_OF_A_BOOK];
        }

        void copyFrom(Book other) {
            told.copyFrom(other.told);
            System.arraycopy(other.countries, 0, countries, 0, STAMPS_OF_A_BOOK);
        }

        void begin(int country, int day) {
            told.begin(country, day);
        }

        void addExit(int country, int day) {
            addStamp(country, NOWHERE, day);
        }

        void addEntry(int country, int day) {
            addStamp(country, country, day);
        }

        private void addStamp(int country, int place, int day) {
            if (stamps() < STAMPS_OF_A_BOOK) {
                countries[stamps()] = country;
                told.add(place, day);
            }
        }

        int stamps() {
            return told.steps;
        }

        boolean hasStamp(int rank) {
            return rank >= 0 && rank < told.steps;
        }

        int dayOf(int rank) {
            return told.dayAfter(rank + 1);
        }

        int countryOf(int rank) {
            return hasStamp(rank) ? countries[rank] : NOWHERE;
        }

        boolean isEntry(int rank) {
            return told.placeAfter(rank + 1) != NOWHERE;
        }

        boolean isGap(int rank) {
            int due = isEntry(rank) ? NOWHERE : countryOf(rank);
            return told.placeAfter(rank) != due;
        }

        int gaps() {
            int gaps = 0;
            for (int rank = 0; rank < stamps(); rank++) {
                if (isGap(rank)) {
                    gaps++;
                }
            }
            return gaps;
        }
    }

    /** Where somebody is from which day on: the place where it begins, and that behind each step. */
    private static final class Trail {
        private final int[] days;
        private final int[] places;
        int steps;

        Trail(int mostSteps) {
            int rows = Math.max(mostSteps, 0) + 1;
            days = new int[rows];
            places = new int[rows];
        }

        void copyFrom(Trail other) {
            int rows = Math.min(other.steps + 1, Math.min(days.length, other.days.length));
            System.arraycopy(other.days, 0, days, 0, rows);
            System.arraycopy(other.places, 0, places, 0, rows);
            steps = rows - 1;
        }

        void begin(int place, int day) {
            places[0] = place;
            days[0] = day;
            steps = 0;
        }

        void add(int place, int day) {
            if (steps + 1 < days.length) {
                steps++;
                places[steps] = place;
                days[steps] = day;
            }
        }

        int lastPlace() {
            return places[steps];
        }

        int placeAfter(int step) {
            return isWithin(step, 0, steps) ? places[step] : NOWHERE;
        }

        int dayAfter(int step) {
            return isWithin(step, 0, steps) ? days[step] : NONE;
        }

        /** On how many days of a span one is in a country as the day ends: of the steps of a day the last one tells. */
        int daysIn(int country, int from, int until) {
            int sum = 0;
            for (int step = 0; step <= steps; step++) {
                int first = days[step] > from ? days[step] : from;
                int last = step < steps && days[step + 1] <= until ? days[step + 1] - 1 : until;
                if (places[step] == country && first <= last) {
                    sum += last - first + 1;
                }
            }
            return sum;
        }
    }

    /** The typed text, and the thing of it that was read latest. */
    private static final class Text {
        static final int NO_FAULT = -1;
        static final int CROSSING = 0;
        static final int VISA = 1;
        static final int DAYS = 2;
        private static final int NO_NUMBER = -1;

        private final char[] characters;
        int length;
        int things;
        private int next;

        int kind;
        int passport;
        int country;
        int forgets;
        int from;
        int until;
        int days;

        Text() {
            characters = new char[TEXT_ROOM];
        }

        int append(char character) {
            if (length >= TEXT_ROOM) {
                return FULL;
            }
            characters[length] = character;
            length++;
            return length;
        }

        int empty() {
            int had = length;
            length = 0;
            return had;
        }

        void goToStart() {
            next = 0;
        }

        /** Counts the things, too. */
        int findFault() {
            goToStart();
            for (things = 1; things <= TEXT_ROOM; things++) {
                if (!readNext()) {
                    return next;
                }
                if (next == length) {
                    return NO_FAULT;
                }
            }
            return next;
        }

        /** Reads a thing and the ";" ahead of it; false at a fault, at which the reading then stands. */
        boolean readNext() {
            if (next > 0 && !take(';')) {
                return false;
            }
            if (take('x')) {
                kind = CROSSING;
                return readCrossing();
            }
            if (take('v')) {
                kind = VISA;
                return readVisa();
            }
            kind = DAYS;
            return take('.') && readDays();
        }

        private boolean readCrossing() {
            if (!readPassportAndCountry()) {
                return false;
            }
            forgets = take('!') ? EXIT_FORGOTTEN : 0;
            if (take('?')) {
                forgets |= ENTRY_FORGOTTEN;
            }
            return true;
        }

        private boolean readVisa() {
            if (!readPassportAndCountry() || !take(':')) {
                return false;
            }
            from = readNumber(0, LAST_DAY);
            if (from == NO_NUMBER || !take('-')) {
                return false;
            }
            until = readNumber(0, LAST_DAY);
            return until != NO_NUMBER && take('*') && readDays();
        }

        private boolean readPassportAndCountry() {
            passport = readNumber(0, PASSPORTS - 1);
            if (passport == NO_NUMBER) {
                return false;
            }
            country = readNumber(0, COUNTRIES - 1);
            return country != NO_NUMBER;
        }

        private boolean readDays() {
            days = readNumber(1, MOST_DAYS);
            return days != NO_NUMBER;
        }

        // A digit that the number can't take stays unread: what is due behind the number then tells it as the fault.
        private int readNumber(int least, int most) {
            int digit = nextDigit();
            if (!isWithin(digit, least, most)) {
                return NO_NUMBER;
            }
            int number = digit;
            next++;
            while (next < length && number > 0) {
                digit = nextDigit();
                if (digit == NO_NUMBER || number * 10 + digit > most) {
                    return number;
                }
                number = number * 10 + digit;
                next++;
            }
            return number;
        }

        private int nextDigit() {
            if (next >= length) {
                return NO_NUMBER;
            }
            int digit = characters[next] - '0';
            return digit >= 0 && digit <= 9 ? digit : NO_NUMBER;
        }

        private boolean take(char due) {
            if (next < length && characters[next] == due) {
                next++;
                return true;
            }
            return false;
        }
    }
}
