import java.util.ArrayDeque;
import java.util.ArrayList;
import java.util.Arrays;
import java.util.Deque;
import java.util.List;
import java.util.TreeMap;
import java.util.regex.Matcher;
import java.util.regex.Pattern;

/**
 * The document once more, by other means than the program's: each day's end writes down where everybody is and is told
 * to be, ways are searched by a queue, and a text's fault is found by a regular expression and the text's beginnings.
 */
final class Model {
    static final int UNKNOWN = -1;
    static final int BAD_VALUE = -2;
    static final int FULL = -3;
    static final int NOT_POSSIBLE = -4;
    static final int NONE = -5;

    private static final String DAY = "(0|[1-9][0-9]?[0-9]?)";
    private static final String DAYS = "([1-9][0-9]?)";
    private static final String THING =
        "(?:x([0-5])([0-5])(!?)(\\??)|v([0-5])([0-5]):" + DAY + "-" + DAY + "\\*" + DAYS + "|\\." + DAYS + ")";
    private static final Pattern ONE_THING = Pattern.compile(THING);
    private static final Pattern WHOLE_TEXT = Pattern.compile(THING + "(?:;" + THING + ")*");

    private static final class Person implements Cloneable {
        int home;
        int place;
        int overstays;
        int crossings;
        int books = 1;
        int toldAtFirst;
        List<int[]> stamps = new ArrayList<>(); // day, country, entry, gap
        TreeMap<Integer, int[]> visas = new TreeMap<>(); // from, until, days
        byte[] placeAtEnd = new byte[1000];
        byte[] toldAtEnd = new byte[1000];

        Person copy() {
            try {
                Person person = (Person) clone();
                person.stamps = new ArrayList<>(stamps);
                person.visas = new TreeMap<>(visas);
                person.placeAtEnd = placeAtEnd.clone();
                person.toldAtEnd = toldAtEnd.clone();
                return person;
            } catch (CloneNotSupportedException e) {
                throw new IllegalStateException(e);
            }
        }

        int told() {
            if (stamps.isEmpty()) {
                return toldAtFirst;
            }
            int[] last = stamps.get(stamps.size() - 1);
            return last[2] == 1 ? last[1] : NONE;
        }

        void put(int day, int country, int entry) {
            boolean fits = entry == 1 ? told() == NONE : told() == country;
            stamps.add(new int[] {day, country, entry, fits ? 0 : 1});
        }

        int gaps() {
            return stamps.stream().mapToInt(s -> s[3]).sum();
        }

        int used(int country, int ahead) {
            int[] visa = visas.get(country);
            return days(toldAtEnd, country, visa[0], visa[1], ahead);
        }

        boolean valid(int country, int day) {
            int[] visa = visas.get(country);
            return visa != null && day >= visa[0] && day <= visa[1];
        }

        boolean admitted(int country, int day) {
            return country == home || valid(country, day) && used(country, day) < visas.get(country)[2];
        }
    }

    private static int days(byte[] log, int country, int from, int until, int ahead) {
        int sum = 0;
        for (int day = from; day <= until && day < ahead; day++) {
            sum += log[day] == country ? 1 : 0;
        }
        return sum;
    }

    private static final class World {
        int day;
        int forgotten;
        boolean[][] closed = new boolean[6][6];
        List<Person> people = new ArrayList<>();

        World copy() {
            World world = new World();
            world.day = day;
            world.forgotten = forgotten;
            for (int i = 0; i < 6; i++) {
                world.closed[i] = closed[i].clone();
            }
            people.forEach(p -> world.people.add(p.copy()));
            return world;
        }

        boolean knows(int passport) {
            return passport >= 0 && passport < people.size();
        }
    }

    private World world = new World();
    private final Deque<World> history = new ArrayDeque<>();
    private World snapshot;
    private final StringBuilder text = new StringBuilder();
    private int[] stop;

    private static boolean country(int country) {
        return country >= 0 && country <= 5;
    }

    private boolean unknown(int passport, int country) {
        return !world.knows(passport) || !country(country);
    }

    private void record() {
        record(world.copy());
    }

    private void record(World state) {
        history.addLast(state);
        if (history.size() > 4) {
            history.removeFirst();
        }
    }

    int issue(int home) {
        if (!country(home)) {
            return UNKNOWN;
        }
        if (world.people.size() == 6) {
            return FULL;
        }
        record();
        Person person = new Person();
        person.home = home;
        person.place = home;
        person.toldAtFirst = home;
        Arrays.fill(person.placeAtEnd, (byte) -9);
        Arrays.fill(person.toldAtEnd, (byte) -9);
        world.people.add(person);
        return world.people.size() - 1;
    }

    int renew(int passport) {
        if (!world.knows(passport)) {
            return UNKNOWN;
        }
        record();
        Person person = world.people.get(passport);
        int had = person.stamps.size();
        person.stamps = new ArrayList<>();
        person.toldAtFirst = person.place;
        Arrays.fill(person.toldAtEnd, (byte) -9);
        person.books++;
        return had;
    }

    int grant(int passport, int country, int from, int until, int days) {
        int error = whyNoGrant(passport, country, from, until, days);
        if (error != 0) {
            return error;
        }
        record();
        return doGrant(passport, country, from, until, days);
    }

    private int whyNoGrant(int passport, int country, int from, int until, int days) {
        if (unknown(passport, country)) {
            return UNKNOWN;
        }
        if (from < 0 || until > 999 || from > until || days < 1 || days > 99) {
            return BAD_VALUE;
        }
        return world.people.get(passport).home == country ? NOT_POSSIBLE : 0;
    }

    private int doGrant(int passport, int country, int from, int until, int days) {
        Person person = world.people.get(passport);
        person.visas.put(country, new int[] {from, until, days});
        return person.used(country, world.day);
    }

    int revoke(int passport, int country) {
        if (unknown(passport, country)) {
            return UNKNOWN;
        }
        if (!world.people.get(passport).visas.containsKey(country)) {
            return NONE;
        }
        record();
        int used = world.people.get(passport).used(country, world.day);
        world.people.get(passport).visas.remove(country);
        return used;
    }

    int turnBorder(int country, int other) {
        if (!country(country) || !country(other)) {
            return UNKNOWN;
        }
        if (country == other) {
            return BAD_VALUE;
        }
        record();
        boolean open = !world.closed[country][other];
        world.closed[country][other] = open;
        world.closed[other][country] = open;
        return closedBorders();
    }

    private int closedBorders() {
        int closed = 0;
        for (boolean[] row : world.closed) {
            for (boolean one : row) {
                closed += one ? 1 : 0;
            }
        }
        return closed / 2;
    }

    int cross(int passport, int country, int forgets) {
        int error = whyNoCrossing(passport, country, forgets);
        if (error != 0) {
            return error;
        }
        record();
        return doCross(passport, country, forgets);
    }

    private int whyNoCrossing(int passport, int country, int forgets) {
        if (unknown(passport, country)) {
            return UNKNOWN;
        }
        if (forgets < 0 || forgets > 3) {
            return BAD_VALUE;
        }
        int reason = reasonFor(world.people.get(passport), country, new int[] {2, 1, 1, 0}[forgets]);
        return reason == 0 ? 0 : -10 - reason;
    }

    private int doCross(int passport, int country, int forgets) {
        Person person = world.people.get(passport);
        if (forgets == 0 || forgets == 2) {
            person.put(world.day, person.place, 0);
        } else {
            world.forgotten++;
        }
        if (forgets < 2) {
            person.put(world.day, country, 1);
        } else {
            world.forgotten++;
        }
        person.place = country;
        person.crossings++;
        return person.stamps.size();
    }

    private int reasonFor(Person person, int country, int room) {
        if (person.place == country) {
            return 1;
        }
        if (world.closed[person.place][country]) {
            return 2;
        }
        if (country != person.home) {
            if (!person.valid(country, world.day)) {
                return 3;
            }
            if (person.used(country, world.day) >= person.visas.get(country)[2]) {
                return 4;
            }
        }
        if (16 - person.stamps.size() < room) {
            return 5;
        }
        return person.crossings == 60 ? 6 : 0;
    }

    int pass(int days) {
        int error = whyNoPass(days);
        if (error != 0) {
            return error;
        }
        record();
        return doPass(days);
    }

    private int whyNoPass(int days) {
        if (days < 1 || days > 99) {
            return BAD_VALUE;
        }
        return world.day + days > 999 ? FULL : 0;
    }

    private int doPass(int days) {
        int overstays = 0;
        for (int i = 0; i < days; i++) {
            for (Person person : world.people) {
                if (!person.admitted(person.place, world.day)) {
                    person.overstays++;
                    overstays++;
                }
                person.placeAtEnd[world.day] = (byte) person.place;
                person.toldAtEnd[world.day] = (byte) person.told();
            }
            world.day++;
        }
        return overstays;
    }

    int type(char character) {
        if (text.length() == 60) {
            return FULL;
        }
        return text.append(character).length();
    }

    int clearText() {
        int had = text.length();
        text.setLength(0);
        return had;
    }

    int perform() {
        int fault = fault();
        if (fault >= 0) {
            return -100 - fault;
        }
        World before = world.copy();
        Matcher things = ONE_THING.matcher(text);
        int done = 0;
        while (things.find()) {
            int answer = doThing(things);
            if (answer < 0) {
                world = before;
                stop = new int[] {done, answer};
                return NOT_POSSIBLE;
            }
            done++;
        }
        record(before);
        return done;
    }

    private int fault() {
        if (WHOLE_TEXT.matcher(text).matches()) {
            return -1;
        }
        for (int length = 1; length <= text.length(); length++) {
            Matcher beginning = WHOLE_TEXT.matcher(text.substring(0, length));
            if (!beginning.matches() && !beginning.hitEnd()) {
                return length - 1;
            }
        }
        return text.length();
    }

    private int doThing(Matcher thing) {
        if (thing.group(1) != null) {
            int forgets = thing.group(3).length() + 2 * thing.group(4).length();
            int error = whyNoCrossing(number(thing, 1), number(thing, 2), forgets);
            return error != 0 ? error : doCross(number(thing, 1), number(thing, 2), forgets);
        }
        if (thing.group(5) != null) {
            int error = whyNoGrant(number(thing, 5), number(thing, 6), number(thing, 7), number(thing, 8), number(thing, 9));
            return error != 0 ? error
                : doGrant(number(thing, 5), number(thing, 6), number(thing, 7), number(thing, 8), number(thing, 9));
        }
        int error = whyNoPass(number(thing, 10));
        return error != 0 ? error : doPass(number(thing, 10));
    }

    private static int number(Matcher thing, int group) {
        return Integer.parseInt(thing.group(group));
    }

    int stopped(int what) {
        if (what != 0 && what != 1) {
            return BAD_VALUE;
        }
        return stop == null ? NONE : stop[what];
    }

    int undo() {
        if (history.isEmpty()) {
            return NONE;
        }
        world = history.removeLast();
        return history.size();
    }

    int keep() {
        snapshot = world.copy();
        return world.day;
    }

    int restore() {
        if (snapshot == null) {
            return NONE;
        }
        record(world);
        world = snapshot.copy();
        return world.day;
    }

    int passport(int passport, int what) {
        if (!world.knows(passport)) {
            return UNKNOWN;
        }
        if (what < 0 || what > 8) {
            return BAD_VALUE;
        }
        Person p = world.people.get(passport);
        return new int[] {p.home, p.place, p.told(), p.stamps.size(), p.gaps(), p.crossings, p.overstays, p.books,
            p.visas.size()}[what];
    }

    int stamp(int passport, int rank, int what) {
        if (!world.knows(passport) || rank < 0 || rank >= world.people.get(passport).stamps.size()) {
            return UNKNOWN;
        }
        if (what < 0 || what > 4) {
            return BAD_VALUE;
        }
        return what == 4 ? rank / 4 : world.people.get(passport).stamps.get(rank)[what];
    }

    int visa(int passport, int country, int what) {
        if (unknown(passport, country)) {
            return UNKNOWN;
        }
        if (what < 0 || what > 4) {
            return BAD_VALUE;
        }
        Person person = world.people.get(passport);
        if (!person.visas.containsKey(country)) {
            return NONE;
        }
        if (what == 3) {
            return person.used(country, world.day);
        }
        return what == 4 ? (person.valid(country, world.day) ? 1 : 0) : person.visas.get(country)[what];
    }

    int reason(int passport, int country) {
        return unknown(passport, country) ? UNKNOWN : reasonFor(world.people.get(passport), country, 2);
    }

    int stay(int passport, int country, int from, int until, boolean told) {
        if (unknown(passport, country)) {
            return UNKNOWN;
        }
        if (from < 0 || from > until || until > 999) {
            return BAD_VALUE;
        }
        Person person = world.people.get(passport);
        return days(told ? person.toldAtEnd : person.placeAtEnd, country, from, until, world.day);
    }

    int wayTo(int passport, int country) {
        if (unknown(passport, country)) {
            return UNKNOWN;
        }
        Person person = world.people.get(passport);
        int[] far = new int[6];
        Arrays.fill(far, -1);
        far[person.place] = 0;
        Deque<Integer> queue = new ArrayDeque<>(List.of(person.place));
        while (!queue.isEmpty()) {
            int here = queue.remove();
            for (int next = 0; next < 6; next++) {
                if (far[next] < 0 && !world.closed[here][next] && person.admitted(next, world.day)) {
                    far[next] = far[here] + 1;
                    queue.add(next);
                }
            }
        }
        return far[country] < 0 ? NONE : far[country];
    }

    int daysLeft(int passport, int country) {
        if (unknown(passport, country)) {
            return UNKNOWN;
        }
        Person person = world.people.get(passport);
        int[] visa = person.visas.get(country);
        if (visa == null) {
            return NONE;
        }
        int left = 0;
        int unused = visa[2] - person.used(country, world.day);
        for (int day = visa[0]; day <= visa[1]; day++) {
            if (day >= world.day && left < unused) {
                left++;
            }
        }
        return left;
    }

    int mistold() {
        int set = 0;
        for (int i = world.people.size() - 1; i >= 0; i--) {
            set = 2 * set + (world.people.get(i).told() == world.people.get(i).place ? 0 : 1);
        }
        return set;
    }

    int holders(int country, boolean told) {
        if (!country(country)) {
            return UNKNOWN;
        }
        int set = 0;
        for (int i = world.people.size() - 1; i >= 0; i--) {
            Person person = world.people.get(i);
            set = 2 * set + ((told ? person.told() : person.place) == country ? 1 : 0);
        }
        return set;
    }

    int count(int what) {
        if (what < 0 || what > 11) {
            return BAD_VALUE;
        }
        int[] sums = new int[12];
        for (Person person : world.people) {
            sums[3] += person.crossings;
            sums[4] += person.overstays;
            sums[5] += person.stamps.size();
            sums[6] += person.gaps();
            sums[7] += person.visas.size();
            sums[8] += (int) person.visas.keySet().stream().filter(c -> person.valid(c, world.day)).count();
        }
        sums[0] = world.day;
        sums[1] = world.people.size();
        sums[2] = closedBorders();
        sums[9] = world.forgotten;
        sums[10] = history.size();
        sums[11] = text.length();
        return sums[what];
    }
}
