import java.util.ArrayList;
import java.util.NoSuchElementException;

/** Audits of a museum's things; ../shared/DOC.md says what each call promises. */
public final class AuditDraws {
    public static final int NONE = -1;

    private static final int STRATA = 6;
    private static final int PLACES = 16;
    private static final int PERSONS = 10;
    private static final int PARTS = 2;
    private static final int MOST_THINGS = 64;
    private static final int MOST_ROWS = 24;
    private static final int LAST_HOUR = 1000000;
    private static final int MOST_GRAMS = 1000000000;

    // The states from UNCHECKED on bear the numbers that report asks for.
    private static final int UNLISTED = -1;
    private static final int UNCHECKED = 0;
    private static final int FOUND = 1;
    private static final int ELSEWHERE = 2;
    private static final int GONE = 3;
    private static final int STATES = 4;

    private static final int RIGHT_PLACE = 0;
    private static final int OTHER_PLACE = 1;
    private static final int SAME_PERSONS = 2;

    // Less than any rest, so that a stratum gives one more at most.
    private static final int SERVED = -1;

    private static final int SHARE_UNCHECKED = 100;
    private static final int SHARE_LEAST = 50;
    private static final int SHARE_OF_MISSED = 950;

    private final Draw draw = new Draw();
    private final ArrayList<Thing> things = new ArrayList<>();
    private final ArrayList<Thing> latest = new ArrayList<>();

    // Kept for every list anew, so that drawing one makes no objects.
    private final ArrayList<Thing> row = new ArrayList<>();
    private final int[] given = new int[STRATA];
    private final int[] rests = new int[STRATA];

    public AuditDraws() {
    }

    public void seed(long s) {
        draw.state = s;
    }

    public int thing(int stratum, int place) throws NoSuchElementException, IllegalStateException {
        needBelow(stratum, STRATA);
        needBelow(place, PLACES);
        if (things.size() >= MOST_THINGS) {
            throw new IllegalStateException("there are 64 things");
        }
        int number = things.size();
        things.add(new Thing(number, stratum, place));
        return number;
    }

    public int list(int n) throws IllegalArgumentException {
        if (n < 0 || n > things.size()) {
            throw new IllegalArgumentException("not so many things");
        }
        forgetLatest();
        shareOut(n);
        for (int stratum = 0; stratum < STRATA; stratum++) {
            layRow(stratum);
            takeFromRow(given[stratum]);
        }
        return latest.size();
    }

    public int drawn(int k) throws NoSuchElementException {
        needBelow(k, latest.size());
        return latest.get(k).number;
    }

    public int check(int thing, int a, int b, int place) throws NoSuchElementException, IllegalStateException {
        Thing checked = existing(thing);
        needBelow(a, PERSONS);
        needBelow(b, PERSONS);
        needBelow(place, PLACES);
        needListed(checked);
        if (a == b) {
            return SAME_PERSONS;
        }
        if (checked.place == place) {
            checked.state = FOUND;
            return RIGHT_PLACE;
        }
        checked.state = ELSEWHERE;
        checked.place = place;
        return OTHER_PLACE;
    }

    public boolean gone(int thing) throws NoSuchElementException, IllegalStateException {
        Thing missed = existing(thing);
        needListed(missed);
        boolean isNew = missed.state != GONE;
        missed.state = GONE;
        return isNew;
    }

    public int share(int stratum, int part) throws NoSuchElementException {
        needBelow(stratum, STRATA);
        needBelow(part, PARTS);
        int checked = countChecked(stratum);
        int found = countListed(stratum, FOUND);
        if (checked == 0) {
            // 0 / 1: what each part tells is its own number.
            return part;
        }
        int divisor = commonDivisor(found, checked);
        return part == 0 ? found / divisor : checked / divisor;
    }

    public int next(int stratum) throws NoSuchElementException {
        needBelow(stratum, STRATA);
        int checked = countChecked(stratum);
        if (checked == 0) {
            return SHARE_UNCHECKED;
        }
        int missed = countMissed(stratum);
        return SHARE_LEAST + (SHARE_OF_MISSED * missed + checked - 1) / checked;
    }

    public int digit(int kind, long number) throws NoSuchElementException, IllegalArgumentException {
        needBelow(kind, CheckDigits.KINDS);
        needNumber(number);
        return CheckDigits.of(kind, number);
    }

    public boolean good(int kind, long number) throws NoSuchElementException, IllegalArgumentException {
        needBelow(kind, CheckDigits.KINDS);
        needNumber(number);
        return CheckDigits.closes(kind, number);
    }

    public int tag(int thing, int hour, int place, int told)
            throws NoSuchElementException, IllegalArgumentException, IllegalStateException {
        Thing tagged = existing(thing);
        needBelow(place, PLACES);
        needHour(hour);
        needHour(told);
        if (told < hour) {
            throw new IllegalArgumentException("told ahead of its hour");
        }
        if (tagged.rows.size() >= MOST_ROWS) {
            throw new IllegalStateException("the thing has 24 rows");
        }
        tagged.rows.add(new Sighting(hour, place, told));
        return tagged.rows.size();
    }

    public int first(int thing, int by) throws NoSuchElementException, IllegalArgumentException {
        Thing asked = existing(thing);
        needHour(by);
        Sighting last = asked.lastToldBy(by);
        return last == null ? 0 : last.hour + 1;
    }

    public int seen(int thing, int by) throws NoSuchElementException, IllegalArgumentException {
        Thing asked = existing(thing);
        needHour(by);
        Sighting last = asked.lastToldBy(by);
        return last == null ? NONE : last.place;
    }

    public int weight(int thing, int grams) throws NoSuchElementException, IllegalArgumentException {
        Thing weighed = existing(thing);
        if (grams < 1 || grams > MOST_GRAMS) {
            throw new IllegalArgumentException("no weight");
        }
        int before = weighed.grams == Thing.NEVER_WEIGHED ? grams : weighed.grams;
        weighed.grams = grams;
        return Math.abs(grams - before);
    }

    public int report(int state, int k) throws NoSuchElementException {
        needBelow(state, STATES);
        needNotNegative(k);
        int ahead = 0;
        for (int i = 0; i < things.size(); i++) {
            if (things.get(i).state == state) {
                if (ahead == k) {
                    return i;
                }
                ahead++;
            }
        }
        return NONE;
    }

    public int room(int place, int k) throws NoSuchElementException {
        needBelow(place, PLACES);
        needNotNegative(k);
        int ahead = 0;
        for (int i = 0; i < things.size(); i++) {
            if (things.get(i).place == place) {
                if (ahead == k) {
                    return i;
                }
                ahead++;
            }
        }
        return NONE;
    }

    private void forgetLatest() {
        for (int i = 0; i < latest.size(); i++) {
            latest.get(i).state = UNLISTED;
        }
        latest.clear();
    }

    /** Sets how many things each stratum gives to a list of n. */
    private void shareOut(int n) {
        int missing = n;
        for (int stratum = 0; stratum < STRATA; stratum++) {
            giveRoundedDown(stratum, n);
            missing -= given[stratum];
        }
        // Each rest is less than a whole, so fewer are missing than there are strata with a rest.
        for (int i = 0; i < missing && i < STRATA; i++) {
            giveOneByGreatestRest();
        }
    }

    private void giveRoundedDown(int stratum, int n) {
        int all = things.size();
        int product = n * countThings(stratum);
        given[stratum] = all == 0 ? 0 : product / all;
        rests[stratum] = all == 0 ? 0 : product % all;
    }

    private void giveOneByGreatestRest() {
        int best = 0;
        for (int stratum = 1; stratum < STRATA; stratum++) {
            if (rests[stratum] > rests[best]) {
                best = stratum;
            }
        }
        given[best]++;
        rests[best] = SERVED;
    }

    private void layRow(int stratum) {
        row.clear();
        for (int i = 0; i < things.size(); i++) {
            Thing each = things.get(i);
            if (each.stratum == stratum) {
                row.add(each);
            }
        }
    }

    private void takeFromRow(int k) {
        for (int i = 0; i < k && i < row.size(); i++) {
            int other = i + draw.below(row.size() - i);
            Thing taken = row.get(other);
            row.set(other, row.get(i));
            row.set(i, taken);
            // Later steps leave place i alone, so the thing there can go behind the list at once.
            taken.state = UNCHECKED;
            latest.add(taken);
        }
    }

    private int countThings(int stratum) {
        int count = 0;
        for (int i = 0; i < things.size(); i++) {
            if (things.get(i).stratum == stratum) {
                count++;
            }
        }
        return count;
    }

    private int countListed(int stratum, int state) {
        int count = 0;
        for (int i = 0; i < latest.size(); i++) {
            Thing each = latest.get(i);
            if (each.stratum == stratum && each.state == state) {
                count++;
            }
        }
        return count;
    }

    private int countMissed(int stratum) {
        return countListed(stratum, ELSEWHERE) + countListed(stratum, GONE);
    }

    private int countChecked(int stratum) {
        return countListed(stratum, FOUND) + countMissed(stratum);
    }

    /** The greatest number that divides both; b is the greater one and above 0. */
    private static int commonDivisor(int a, int b) {
        for (int divisor = b; divisor > 1; divisor--) {
            if (a % divisor == 0 && b % divisor == 0) {
                return divisor;
            }
        }
        return 1;
    }

    private Thing existing(int number) {
        needBelow(number, things.size());
        return things.get(number);
    }

    private static void needBelow(int value, int bound) {
        if (value < 0 || value >= bound) {
            throw new NoSuchElementException("there is no such number");
        }
    }

    private static void needNotNegative(int k) {
        if (k < 0) {
            throw new NoSuchElementException("k is below 0");
        }
    }

    private static void needListed(Thing asked) {
        if (asked.state == UNLISTED) {
            throw new IllegalStateException("not on the latest list");
        }
    }

    private static void needHour(int hour) {
        if (hour < 0 || hour > LAST_HOUR) {
            throw new IllegalArgumentException("no hour");
        }
    }

    private static void needNumber(long number) {
        if (number < 0 || number > CheckDigits.MOST_NUMBER) {
            throw new IllegalArgumentException("not 0 .. 10 to the 17th");
        }
    }

    private static final class Draw {
        private static final long FACTOR = 6364136223846793005L;
        private static final long STEP = 1442695040888963407L;
        private static final int LOWER_BITS = 33;

        long state = 0;

        int below(int n) {
            state = state * FACTOR + STEP;
            return n < 1 ? 0 : (int) ((state >>> LOWER_BITS) % n);
        }
    }

    private static final class Thing {
        static final int NEVER_WEIGHED = 0;

        final int number;
        final int stratum;
        final ArrayList<Sighting> rows = new ArrayList<>();
        int place;
        int state = UNLISTED;
        int grams = NEVER_WEIGHED;

        Thing(int number, int stratum, int place) {
            this.number = number;
            this.stratum = stratum;
            this.place = place;
        }

        /** The row with the greatest hour of those told by an hour; null without one. */
        Sighting lastToldBy(int by) {
            Sighting last = null;
            for (int i = 0; i < rows.size(); i++) {
                Sighting each = rows.get(i);
                if (each.told <= by && (last == null || each.replaces(last))) {
                    last = each;
                }
            }
            return last;
        }
    }

    /** A row of a thing. */
    private static final class Sighting {
        final int hour;
        final int place;
        final int told;

        Sighting(int hour, int place, int told) {
            this.hour = hour;
            this.place = place;
            this.told = told;
        }

        /** Whether this row counts and not the given one, which came ahead of it. */
        boolean replaces(Sighting earlier) {
            if (hour != earlier.hour) {
                return hour > earlier.hour;
            }
            return told >= earlier.told;
        }
    }

    private static final class CheckDigits {
        static final int KINDS = 3;
        static final long MOST_NUMBER = 100000000000000000L;

        private static final int DOUBLED = 0;
        private static final int TRIPLED = 1;
        private static final int MOST_DIGITS = 18;

        static int of(int kind, long number) {
            int sum = weighedSum(kind, number);
            return kind == DOUBLED || kind == TRIPLED ? (10 - sum % 10) % 10 : (11 - sum % 11) % 11;
        }

        static boolean closes(int kind, long number) {
            int last = (int) (number % 10);
            // A check digit of 10 never equals one digit, so this is the document's rule for kind 2 too.
            return of(kind, number / 10) == last;
        }

        // Digits ahead of the number's own are 0 and weigh nothing, so all numbers are read alike.
        private static int weighedSum(int kind, long number) {
            int sum = 0;
            long left = number;
            for (int k = 0; k < MOST_DIGITS; k++) {
                sum += weighed(kind, k, (int) (left % 10));
                left /= 10;
            }
            return sum;
        }

        private static int weighed(int kind, int k, int value) {
            boolean even = k % 2 == 0;
            if (kind == DOUBLED) {
                return even ? doubled(value) : value;
            }
            if (kind == TRIPLED) {
                return even ? 3 * value : value;
            }
            return value * (k % 6 + 2);
        }

        private static int doubled(int value) {
            int twice = 2 * value;
            return twice > 9 ? twice - 9 : twice;
        }
    }
}
