/** Promises 12 to 15: tag, first, seen, weight. */
public final class TagsTest {
    private static final int LAST = 1000000;

    public static void main(String[] args) {
        rowsAreCounted();
        twentyFourRows();
        wrongTags();
        wrongTagsChangeNothing();
        exceptionsInTheirOrder();
        firstHours();
        seenPlaces();
        equalHours();
        theEdgesOfTheHours();
        wrongQuestions();
        rowsOutliveListsAndChecks();
        weights();
        wrongWeights();
        Due.end();
    }

    private static AuditDraws withThings(int count) {
        AuditDraws x = new AuditDraws();
        for (int i = 0; i < count; i++) {
            x.thing(0, 0);
        }
        return x;
    }

    private static void rowsAreCounted() {
        AuditDraws x = withThings(2);
        Due.same("first row", 1, () -> x.tag(0, 5, 3, 7));
        Due.same("the same row again", 2, () -> x.tag(0, 5, 3, 7));
        Due.same("another thing's first", 1, () -> x.tag(1, 5, 3, 5));
        Due.same("third row", 3, () -> x.tag(0, 0, 15, 0));
    }

    private static void twentyFourRows() {
        AuditDraws x = withThings(2);
        for (int i = 0; i < 24; i++) {
            int hour = i;
            Due.same("row " + i, i + 1, () -> x.tag(0, hour, hour % 16, 100));
        }
        Due.fails("the 25th", Due.STATE, () -> x.tag(0, 50, 3, 100));
        Due.same("it changed nothing", 24, () -> x.first(0, 100));
        Due.same("it changed nothing", 7, () -> x.seen(0, 100));
        Due.fails("still", Due.STATE, () -> x.tag(0, 0, 0, 0));
        Due.same("another thing has room", 1, () -> x.tag(1, 50, 3, 100));
    }

    private static void wrongTags() {
        AuditDraws x = withThings(1);
        int[][] none = {{-1, 5, 3, 7}, {1, 5, 3, 7}, {64, 5, 3, 7}, {0, 5, -1, 7}, {0, 5, 16, 7},
            {Integer.MIN_VALUE, 5, 3, 7}, {0, 5, Integer.MAX_VALUE, 7}};
        for (int[] w : none) {
            Due.fails("tag" + java.util.Arrays.toString(w), Due.NO_SUCH, () -> x.tag(w[0], w[1], w[2], w[3]));
        }
        int[][] bad = {{-1, 7}, {-1, -1}, {5, -1}, {5, 4}, {5, LAST + 1}, {LAST + 1, LAST + 1}, {LAST, LAST - 1},
            {1, 0}, {Integer.MIN_VALUE, 0}, {0, Integer.MAX_VALUE}, {LAST + 1, LAST}};
        for (int[] w : bad) {
            Due.fails("tag at " + java.util.Arrays.toString(w), Due.ARGUMENT, () -> x.tag(0, w[0], 3, w[1]));
        }
    }

    private static void wrongTagsChangeNothing() {
        AuditDraws x = withThings(1);
        Due.fails("no place", Due.NO_SUCH, () -> x.tag(0, 5, 16, 7));
        Due.fails("told ahead", Due.ARGUMENT, () -> x.tag(0, 5, 3, 4));
        Due.same("no row", 0, () -> x.first(0, LAST));
        Due.same("no place", -1, () -> x.seen(0, LAST));
        Due.same("the first row", 1, () -> x.tag(0, 5, 3, 5));
    }

    private static void exceptionsInTheirOrder() {
        AuditDraws x = withThings(1);
        Due.fails("no thing, no hour", Due.NO_SUCH, () -> x.tag(1, -1, 3, 7));
        Due.fails("no place, told ahead", Due.NO_SUCH, () -> x.tag(0, 5, 16, 4));
        for (int i = 0; i < 24; i++) {
            x.tag(0, 1, 1, 1);
        }
        Due.fails("24 rows, no place", Due.NO_SUCH, () -> x.tag(0, 5, 16, 7));
        Due.fails("24 rows, no hour", Due.ARGUMENT, () -> x.tag(0, LAST + 1, 3, LAST));
        Due.fails("24 rows, told ahead", Due.ARGUMENT, () -> x.tag(0, 5, 3, 4));
        Due.fails("first: no thing, no hour", Due.NO_SUCH, () -> x.first(1, -1));
        Due.fails("seen: no thing, no hour", Due.NO_SUCH, () -> x.seen(1, -1));
        Due.fails("weight: no thing, no weight", Due.NO_SUCH, () -> x.weight(1, 0));
    }

    private static void firstHours() {
        AuditDraws x = withThings(2);
        Due.same("no rows", 0, () -> x.first(0, LAST));
        x.tag(0, 30, 1, 40);
        x.tag(0, 10, 2, 20);
        x.tag(0, 20, 3, 90);
        Due.same("nothing told", 0, () -> x.first(0, 19));
        Due.same("told at that hour", 11, () -> x.first(0, 20));
        Due.same("an hour ahead", 11, () -> x.first(0, 39));
        Due.same("the greatest hour", 31, () -> x.first(0, 40));
        Due.same("a late one with a lesser hour", 31, () -> x.first(0, 90));
        Due.same("another thing", 0, () -> x.first(1, 90));
        x.tag(1, 0, 5, 0);
        Due.same("hour 0", 1, () -> x.first(1, 0));
    }

    private static void seenPlaces() {
        AuditDraws x = withThings(2);
        Due.same("no rows", -1, () -> x.seen(0, LAST));
        x.tag(0, 30, 1, 40);
        x.tag(0, 10, 2, 20);
        x.tag(0, 20, 3, 90);
        Due.same("nothing told", -1, () -> x.seen(0, 19));
        Due.same("told at that hour", 2, () -> x.seen(0, 20));
        Due.same("an hour ahead", 2, () -> x.seen(0, 39));
        Due.same("the greatest hour", 1, () -> x.seen(0, 40));
        Due.same("told latest, with a lesser hour", 1, () -> x.seen(0, 90));
        Due.same("another thing", -1, () -> x.seen(1, 90));
    }

    private static void equalHours() {
        AuditDraws x = withThings(1);
        x.tag(0, 10, 1, 30);
        x.tag(0, 10, 2, 20);
        Due.same("told earlier, a later row", 1, () -> x.seen(0, 30));
        Due.same("by 29", 2, () -> x.seen(0, 29));
        x.tag(0, 10, 3, 30);
        Due.same("told likewise, a later row", 3, () -> x.seen(0, 30));
        x.tag(0, 10, 4, 31);
        Due.same("told later, by 30", 3, () -> x.seen(0, 30));
        Due.same("told later, by 31", 4, () -> x.seen(0, 31));
        x.tag(0, 9, 5, 99);
        Due.same("a lesser hour, told latest", 4, () -> x.seen(0, 99));
    }

    private static void theEdgesOfTheHours() {
        AuditDraws x = withThings(1);
        Due.same("hour 0", 1, () -> x.tag(0, 0, 6, 0));
        Due.same("the last hour", 2, () -> x.tag(0, LAST, 7, LAST));
        Due.same("first by 0", 1, () -> x.first(0, 0));
        Due.same("seen by 0", 6, () -> x.seen(0, 0));
        Due.same("first by the last but one", 1, () -> x.first(0, LAST - 1));
        Due.same("first by the last", LAST + 1, () -> x.first(0, LAST));
        Due.same("seen by the last", 7, () -> x.seen(0, LAST));
    }

    private static void wrongQuestions() {
        AuditDraws x = withThings(1);
        x.tag(0, 5, 3, 5);
        for (int wrong : new int[] {-1, 1, 64, Integer.MIN_VALUE, Integer.MAX_VALUE}) {
            Due.fails("first of " + wrong, Due.NO_SUCH, () -> x.first(wrong, 5));
            Due.fails("seen of " + wrong, Due.NO_SUCH, () -> x.seen(wrong, 5));
        }
        for (int wrong : new int[] {-1, LAST + 1, Integer.MIN_VALUE, Integer.MAX_VALUE}) {
            Due.fails("first by " + wrong, Due.ARGUMENT, () -> x.first(0, wrong));
            Due.fails("seen by " + wrong, Due.ARGUMENT, () -> x.seen(0, wrong));
        }
    }

    private static void rowsOutliveListsAndChecks() {
        AuditDraws x = withThings(1);
        x.tag(0, 5, 3, 5);
        x.weight(0, 100);
        x.list(1);
        x.check(0, 1, 2, 9);
        x.gone(0);
        x.list(0);
        Due.same("first", 6, () -> x.first(0, 5));
        Due.same("seen", 3, () -> x.seen(0, 5));
        Due.same("weight", 1, () -> x.weight(0, 101));
    }

    private static void weights() {
        AuditDraws x = withThings(2);
        Due.same("the first time", 0, () -> x.weight(0, 500));
        Due.same("less", 30, () -> x.weight(0, 470));
        Due.same("more", 31, () -> x.weight(0, 501));
        Due.same("the same", 0, () -> x.weight(0, 501));
        Due.same("another thing's first", 0, () -> x.weight(1, 1));
        Due.same("the greatest", 999999999, () -> x.weight(1, 1000000000));
        Due.same("the least", 999999999, () -> x.weight(1, 1));
        Due.same("not the other's", 1, () -> x.weight(0, 500));
    }

    private static void wrongWeights() {
        AuditDraws x = withThings(1);
        for (int wrong : new int[] {0, -1, 1000000001, Integer.MIN_VALUE, Integer.MAX_VALUE}) {
            Due.fails("weight of " + wrong, Due.ARGUMENT, () -> x.weight(0, wrong));
        }
        Due.same("none of them was told", 0, () -> x.weight(0, 10));
        Due.fails("no weight", Due.ARGUMENT, () -> x.weight(0, 0));
        Due.same("10 is still the latest", 5, () -> x.weight(0, 15));
        for (int wrong : new int[] {-1, 1, Integer.MIN_VALUE, Integer.MAX_VALUE}) {
            Due.fails("weight of thing " + wrong, Due.NO_SUCH, () -> x.weight(wrong, 5));
        }
    }
}
