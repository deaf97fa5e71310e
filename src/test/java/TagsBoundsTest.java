/** The boundary cases of HOURS, of ROWS and the FIRST HOUR, and of promises 12 to 15. */
public final class TagsBoundsTest {
    private static final int LAST = Twins.LAST_HOUR;
    private static final int MOST_GRAMS = 1000000000;

    public static void main(String[] args) {
        thingsThatAreTagged();
        placesOfTags();
        hoursOfTags();
        hoursAtWhichTagsAreTold();
        toldAtTheHourItself();
        twentyFourRows();
        theTwentyFifthRowIsRefused();
        exceptionsOfTagsInTheirOrder();
        aTagChangesRowsAlone();
        thingsAndHoursOfFirst();
        firstHourWithoutRows();
        firstHourByWhatWasTold();
        firstHourAtTheEnds();
        theGreatestHourCounts();
        thingsAndHoursOfSeen();
        seenWithoutRows();
        seenByWhatWasTold();
        theGreatestHourIsSeen();
        ofEqualHoursTheOneToldLatest();
        ofEqualOnesTheLaterRow();
        thingsThatAreWeighed();
        weightsThatAreTaken();
        theFirstWeight();
        weightsWithoutSign();
        aRefusedWeightIsNotTold();
        Due.end();
    }

    /** Three things; 0 has no row and no weight, 1 and 2 have both; all are on the list. */
    private static void three(AuditDraws x) {
        for (int i = 0; i < 3; i++) {
            x.thing(i, i);
        }
        x.seed(6);
        x.list(3);
        x.check(1, 1, 2, 1);
        x.tag(1, 10, 4, 20);
        x.tag(2, 0, 15, LAST);
        x.weight(1, 500);
        x.weight(2, 1);
    }

    private static void rows(AuditDraws x, int count) {
        three(x);
        for (int i = 0; i < count; i++) {
            x.tag(0, 30 + i, i % 16, 60);
        }
    }

    private static AuditDraws oneThing() {
        AuditDraws x = new AuditDraws();
        x.thing(0, 0);
        return x;
    }

    // Promise 12

    private static void thingsThatAreTagged() {
        int[] want = {1, 2, 2};
        Twins.range("tag of", 0, 2, Due.NO_SUCH, TagsBoundsTest::three, (x, t) -> x.tag(t, 5, 3, 7), t -> want[t]);
        AuditDraws x = new AuditDraws();
        for (int i = 0; i < 64; i++) {
            x.thing(0, 0);
        }
        Due.same("tag of 63", 1, () -> x.tag(63, 5, 3, 7));
        Due.fails("tag of 64", Due.NO_SUCH, () -> x.tag(64, 5, 3, 7));
    }

    private static void placesOfTags() {
        Twins.range("tag at place", 0, 15, Due.NO_SUCH, TagsBoundsTest::three, (x, p) -> x.tag(1, 5, p, 7), p -> 2);
        for (int i = 0; i < 16; i++) {
            int place = i;
            AuditDraws x = oneThing();
            x.tag(0, 5, place, 7);
            Due.same("seen at " + i, place, () -> x.seen(0, 7));
        }
    }

    private static void hoursOfTags() {
        Twins.range("tag at hour", 0, LAST, Due.ARGUMENT, TagsBoundsTest::three, (x, h) -> x.tag(1, h, 3, LAST),
            h -> 2);
        // An hour that is none is refused as well if it is told at that very hour.
        for (int hour : new int[] {-1, LAST + 1, Integer.MIN_VALUE, Integer.MAX_VALUE}) {
            Twins.refused("tag and told at " + hour, Due.ARGUMENT, TagsBoundsTest::three,
                x -> x.tag(1, hour, 3, hour));
        }
    }

    private static void hoursAtWhichTagsAreTold() {
        Twins.range("tag told at", 0, LAST, Due.ARGUMENT, TagsBoundsTest::three, (x, told) -> x.tag(1, 0, 3, told),
            told -> 2);
        Twins.refused("told behind the last hour", Due.ARGUMENT, TagsBoundsTest::three,
            x -> x.tag(1, LAST, 3, LAST + 1));
        Twins.refused("neither hour", Due.ARGUMENT, TagsBoundsTest::three, x -> x.tag(1, -1, 3, LAST + 1));
        Twins.refused("neither hour, turned", Due.ARGUMENT, TagsBoundsTest::three, x -> x.tag(1, LAST + 1, 3, -1));
    }

    private static void toldAtTheHourItself() {
        for (int hour : new int[] {1, 2, 500000, LAST - 1, LAST}) {
            Twins.refused("told an hour ahead of " + hour, Due.ARGUMENT, TagsBoundsTest::three,
                x -> x.tag(1, hour, 3, hour - 1));
            Twins.refused("told at 0 of " + hour, Due.ARGUMENT, TagsBoundsTest::three, x -> x.tag(1, hour, 3, 0));
            Due.same("told at " + hour, 1, () -> oneThing().tag(0, hour, 3, hour));
            if (hour < LAST) {
                Due.same("told an hour behind " + hour, 1, () -> oneThing().tag(0, hour, 3, hour + 1));
            }
        }
        Due.same("hour 0 told at 0", 1, () -> oneThing().tag(0, 0, 3, 0));
    }

    private static void twentyFourRows() {
        AuditDraws x = oneThing();
        for (int i = 1; i <= 24; i++) {
            int count = i;
            // Equal rows count each.
            Due.same("row " + i, count, () -> x.tag(0, 5, 3, 7));
        }
        for (int before : new int[] {22, 23}) {
            AuditDraws y = Twins.make(made -> rows(made, before));
            Due.same("a row behind " + before, before + 1, () -> y.tag(0, 55, 9, 60));
            Due.same("its hour", 56, () -> y.first(0, 60));
            Due.same("its place", 9, () -> y.seen(0, 60));
        }
    }

    private static void theTwentyFifthRowIsRefused() {
        Twins.Setup full = x -> rows(x, 24);
        Twins.refused("the 25th row", Due.STATE, full, x -> x.tag(0, 70, 3, 80));
        Twins.refused("the 25th row at hour 0", Due.STATE, full, x -> x.tag(0, 0, 0, 0));
        Twins.refused("the 25th row at the last hour", Due.STATE, full, x -> x.tag(0, LAST, 15, LAST));
        AuditDraws x = Twins.make(full);
        Due.fails("refused", Due.STATE, () -> x.tag(0, 70, 3, 80));
        Due.fails("refused again", Due.STATE, () -> x.tag(0, 70, 3, 80));
        Due.same("another thing has room", 2, () -> x.tag(1, 70, 3, 80));
        x.list(0);
        Due.fails("a new list forgets no row", Due.STATE, () -> x.tag(0, 70, 3, 80));
    }

    private static void exceptionsOfTagsInTheirOrder() {
        Twins.Setup full = x -> rows(x, 24);
        for (int thing : new int[] {-1, 3}) {
            Twins.refused("no thing, no hour", Due.NO_SUCH, full, x -> x.tag(thing, -1, 3, 7));
            Twins.refused("no thing, told ahead", Due.NO_SUCH, full, x -> x.tag(thing, 5, 3, 4));
        }
        for (int place : new int[] {-1, 16}) {
            Twins.refused("no place, 24 rows", Due.NO_SUCH, full, x -> x.tag(0, 5, place, 7));
            Twins.refused("no place, no hour", Due.NO_SUCH, full, x -> x.tag(0, LAST + 1, place, LAST + 1));
            Twins.refused("no place, told ahead", Due.NO_SUCH, full, x -> x.tag(0, 5, place, 4));
            Twins.refused("no place, room for a row", Due.NO_SUCH, full, x -> x.tag(1, 5, place, 4));
        }
        for (int hour : new int[] {-1, LAST + 1}) {
            Twins.refused("no hour, 24 rows", Due.ARGUMENT, full, x -> x.tag(0, hour, 3, LAST));
            Twins.refused("told at no hour, 24 rows", Due.ARGUMENT, full, x -> x.tag(0, 0, 3, hour));
        }
        Twins.refused("told ahead, 24 rows", Due.ARGUMENT, full, x -> x.tag(0, 5, 3, 4));
        Twins.refused("told at its hour, 24 rows", Due.STATE, full, x -> x.tag(0, 5, 3, 5));
    }

    private static void aTagChangesRowsAlone() {
        AuditDraws x = Twins.make(TagsBoundsTest::three);
        x.tag(0, 5, 15, 7);
        Due.same("it moves nothing", 0, () -> x.room(0, 0));
        Due.same("nothing comes to its place", AuditDraws.NONE, () -> x.room(15, 0));
        Due.same("it checks nothing", 0, () -> x.report(0, 0));
        Due.same("it weighs nothing", 0, () -> x.weight(0, 3));
        Due.same("a thing off any list can be tagged", 1, () -> oneThing().tag(0, 5, 3, 7));
    }

    // Promise 13

    private static void thingsAndHoursOfFirst() {
        int[] want = {0, 11, 1};
        Twins.Setup setup = TagsBoundsTest::three;
        Twins.range("first of", 0, 2, Due.NO_SUCH, setup, (x, t) -> x.first(t, LAST), t -> want[t]);
        Twins.range("first by", 0, LAST, Due.ARGUMENT, setup, (x, by) -> x.first(1, by), by -> by >= 20 ? 11 : 0);
        Twins.range("first without rows by", 0, LAST, Due.ARGUMENT, setup, (x, by) -> x.first(0, by), by -> 0);
        for (int thing : new int[] {-1, 3}) {
            for (int by : new int[] {-1, LAST + 1}) {
                Twins.refused("neither thing nor hour", Due.NO_SUCH, setup, x -> x.first(thing, by));
            }
        }
        Twins.leavesNoTrace("a first hour", 11, setup, x -> x.first(1, 20));
    }

    private static void firstHourWithoutRows() {
        for (int by : new int[] {0, 1, LAST - 1, LAST}) {
            Due.same("no row by " + by, 0, () -> oneThing().first(0, by));
        }
        // A row of hour 0 is another thing than no row.
        AuditDraws x = oneThing();
        x.tag(0, 0, 3, 1);
        Due.same("hour 0, not told", 0, () -> x.first(0, 0));
        Due.same("hour 0, told", 1, () -> x.first(0, 1));
    }

    private static void firstHourByWhatWasTold() {
        for (int told : new int[] {5, 6, 500000, LAST - 1}) {
            AuditDraws x = oneThing();
            x.tag(0, 5, 3, told);
            Due.same("an hour ahead of " + told, 0, () -> x.first(0, told - 1));
            Due.same("at " + told, 6, () -> x.first(0, told));
            Due.same("an hour behind " + told, 6, () -> x.first(0, told + 1));
        }
        AuditDraws x = oneThing();
        x.tag(0, 5, 3, LAST);
        Due.same("an hour ahead of the last", 0, () -> x.first(0, LAST - 1));
        Due.same("at the last", 6, () -> x.first(0, LAST));
    }

    private static void firstHourAtTheEnds() {
        for (int hour : new int[] {0, 1, LAST - 1, LAST}) {
            AuditDraws x = oneThing();
            x.tag(0, hour, 3, LAST);
            Due.same("one more than " + hour, hour + 1, () -> x.first(0, LAST));
        }
    }

    private static void theGreatestHourCounts() {
        for (int other : new int[] {49, 50, 51}) {
            AuditDraws x = oneThing();
            x.tag(0, 50, 3, 60);
            x.tag(0, other, 4, 60);
            Due.same("50, then " + other, Math.max(50, other) + 1, () -> x.first(0, 60));
            AuditDraws y = oneThing();
            y.tag(0, other, 4, 60);
            y.tag(0, 50, 3, 60);
            Due.same(other + ", then 50", Math.max(50, other) + 1, () -> y.first(0, 60));
        }
        AuditDraws x = oneThing();
        x.tag(0, 51, 3, 61);
        x.tag(0, 50, 3, 60);
        Due.same("the greater one is not told yet", 51, () -> x.first(0, 60));
        Due.same("it is told", 52, () -> x.first(0, 61));
    }

    // Promise 14

    private static void thingsAndHoursOfSeen() {
        int[] want = {AuditDraws.NONE, 4, 15};
        Twins.Setup setup = TagsBoundsTest::three;
        Twins.range("seen of", 0, 2, Due.NO_SUCH, setup, (x, t) -> x.seen(t, LAST), t -> want[t]);
        Twins.range("seen by", 0, LAST, Due.ARGUMENT, setup, (x, by) -> x.seen(1, by),
            by -> by >= 20 ? 4 : AuditDraws.NONE);
        Twins.range("seen without rows by", 0, LAST, Due.ARGUMENT, setup, (x, by) -> x.seen(0, by),
            by -> AuditDraws.NONE);
        for (int thing : new int[] {-1, 3}) {
            for (int by : new int[] {-1, LAST + 1}) {
                Twins.refused("neither thing nor hour", Due.NO_SUCH, setup, x -> x.seen(thing, by));
            }
        }
        Twins.leavesNoTrace("a place", 4, setup, x -> x.seen(1, 20));
    }

    private static void seenWithoutRows() {
        for (int by : new int[] {0, 1, LAST - 1, LAST}) {
            Due.same("no row by " + by, AuditDraws.NONE, () -> oneThing().seen(0, by));
        }
        // Place 0 at hour 0 is another answer than NONE.
        AuditDraws x = oneThing();
        x.tag(0, 0, 0, 1);
        Due.same("not told", AuditDraws.NONE, () -> x.seen(0, 0));
        Due.same("told", 0, () -> x.seen(0, 1));
    }

    private static void seenByWhatWasTold() {
        for (int told : new int[] {5, 6, 500000, LAST - 1}) {
            AuditDraws x = oneThing();
            x.tag(0, 5, 3, told);
            Due.same("an hour ahead of " + told, AuditDraws.NONE, () -> x.seen(0, told - 1));
            Due.same("at " + told, 3, () -> x.seen(0, told));
            Due.same("an hour behind " + told, 3, () -> x.seen(0, told + 1));
        }
        AuditDraws x = oneThing();
        x.tag(0, LAST, 3, LAST);
        Due.same("an hour ahead of the last", AuditDraws.NONE, () -> x.seen(0, LAST - 1));
        Due.same("at the last", 3, () -> x.seen(0, LAST));
    }

    private static void theGreatestHourIsSeen() {
        // The row of hour 50 is told last; one of hour 49 yields to it, one of 51 does not.
        for (int other : new int[] {49, 51}) {
            int want = other > 50 ? 4 : 3;
            AuditDraws x = oneThing();
            x.tag(0, 50, 3, 90);
            x.tag(0, other, 4, 60);
            Due.same("50, then " + other, want, () -> x.seen(0, 90));
            AuditDraws y = oneThing();
            y.tag(0, other, 4, 60);
            y.tag(0, 50, 3, 90);
            Due.same(other + ", then 50", want, () -> y.seen(0, 90));
            Due.same(other + " alone is told", 4, () -> y.seen(0, 89));
        }
    }

    private static void ofEqualHoursTheOneToldLatest() {
        for (int told : new int[] {59, 61}) {
            int want = told > 60 ? 4 : 3;
            AuditDraws x = oneThing();
            x.tag(0, 50, 3, 60);
            x.tag(0, 50, 4, told);
            Due.same("told at 60, then " + told, want, () -> x.seen(0, 61));
            AuditDraws y = oneThing();
            y.tag(0, 50, 4, told);
            y.tag(0, 50, 3, 60);
            Due.same("told at " + told + ", then 60", want, () -> y.seen(0, 61));
        }
        AuditDraws x = oneThing();
        x.tag(0, 50, 3, 60);
        x.tag(0, 50, 4, 61);
        Due.same("the one told latest is not told yet", 3, () -> x.seen(0, 60));
    }

    private static void ofEqualOnesTheLaterRow() {
        AuditDraws x = oneThing();
        for (int i = 0; i < 24; i++) {
            int place = (i * 7 + 5) % 16;
            x.tag(0, 50, place, 60);
            Due.same("row " + i, place, () -> x.seen(0, 60));
        }
        AuditDraws y = oneThing();
        y.tag(0, LAST, 15, LAST);
        y.tag(0, LAST, 0, LAST);
        Due.same("at the last hour", 0, () -> y.seen(0, LAST));
    }

    // Promise 15

    private static void thingsThatAreWeighed() {
        int[] want = {0, 493, 6};
        Twins.range("weight of", 0, 2, Due.NO_SUCH, TagsBoundsTest::three, (x, t) -> x.weight(t, 7), t -> want[t]);
        for (int thing : new int[] {-1, 3}) {
            for (int grams : new int[] {0, MOST_GRAMS + 1}) {
                Twins.refused("neither thing nor weight", Due.NO_SUCH, TagsBoundsTest::three,
                    x -> x.weight(thing, grams));
            }
        }
    }

    private static void weightsThatAreTaken() {
        Twins.range("the first weight", 1, MOST_GRAMS, Due.ARGUMENT, TagsBoundsTest::three,
            (x, grams) -> x.weight(0, grams), grams -> 0);
        Twins.range("behind 500 the weight", 1, MOST_GRAMS, Due.ARGUMENT, TagsBoundsTest::three,
            (x, grams) -> x.weight(1, grams), grams -> Math.abs(grams - 500));
        for (int grams : new int[] {-1, -500}) {
            Twins.refused("the weight " + grams, Due.ARGUMENT, TagsBoundsTest::three, x -> x.weight(1, grams));
        }
    }

    private static void theFirstWeight() {
        for (int grams : new int[] {1, 2, MOST_GRAMS - 1, MOST_GRAMS}) {
            AuditDraws x = oneThing();
            Due.same("the first time " + grams, 0, () -> x.weight(0, grams));
            Due.same("the second time " + grams, 0, () -> x.weight(0, grams));
        }
        AuditDraws x = oneThing();
        x.thing(0, 0);
        x.weight(0, 40);
        Due.same("another thing's first", 0, () -> x.weight(1, 90));
        Due.same("each has its own", 1, () -> x.weight(0, 41));
        x.list(2);
        x.list(0);
        Due.same("a new list forgets no weight", 10, () -> x.weight(1, 100));
    }

    private static void weightsWithoutSign() {
        AuditDraws x = oneThing();
        x.weight(0, 1);
        Due.same("from the least to the greatest", MOST_GRAMS - 1, () -> x.weight(0, MOST_GRAMS));
        Due.same("and back", MOST_GRAMS - 1, () -> x.weight(0, 1));
        Due.same("one more", 1, () -> x.weight(0, 2));
        Due.same("the same", 0, () -> x.weight(0, 2));
        Due.same("one less", 1, () -> x.weight(0, 1));
        // The one told ahead counts, not the first one.
        x.weight(0, 100);
        Due.same("30 less", 30, () -> x.weight(0, 70));
        Due.same("20 more", 20, () -> x.weight(0, 90));
    }

    private static void aRefusedWeightIsNotTold() {
        for (int wrong : new int[] {0, -1, MOST_GRAMS + 1, Integer.MIN_VALUE, Integer.MAX_VALUE}) {
            AuditDraws x = oneThing();
            Due.fails("ahead of the first: " + wrong, Due.ARGUMENT, () -> x.weight(0, wrong));
            Due.same("the first time", 0, () -> x.weight(0, 500));
            Due.fails("behind it: " + wrong, Due.ARGUMENT, () -> x.weight(0, wrong));
            Due.same("compared with the first", 3, () -> x.weight(0, 503));
        }
    }
}
