/** Promises 1 to 5: a new object, seed, thing, list, drawn. */
public final class ListsTest {
    public static void main(String[] args) {
        aNewObject();
        thingsAreNumbered();
        wrongThings();
        sixtyFourThings();
        emptyLists();
        wrongLists();
        aListByHand();
        firstSeedIsZero();
        seedsOfAllBits();
        restsGoToTheGreatest();
        equalRestsGoToTheLowerStratum();
        wholeListsHaveNoRepeats();
        theStateGoesOnFromListToList();
        aLaterThingIsNotOnTheList();
        wrongPlacesOfTheList();
        Due.end();
    }

    private static AuditDraws with(int... strata) {
        AuditDraws x = new AuditDraws();
        for (int stratum : strata) {
            x.thing(stratum, 0);
        }
        return x;
    }

    private static String listOf(AuditDraws x, int n) {
        StringBuilder all = new StringBuilder();
        int size = x.list(n);
        for (int k = 0; k < size; k++) {
            all.append(k == 0 ? "" : " ").append(x.drawn(k));
        }
        return all.toString();
    }

    private static void aNewObject() {
        AuditDraws x = new AuditDraws();
        Due.same("NONE", -1, () -> AuditDraws.NONE);
        Due.fails("no thing to check", Due.NO_SUCH, () -> x.check(0, 1, 2, 0));
        Due.fails("no thing to weigh", Due.NO_SUCH, () -> x.weight(0, 1));
        Due.fails("an empty list", Due.NO_SUCH, () -> x.drawn(0));
        for (int i = 0; i < 4; i++) {
            int state = i;
            Due.same("report of nothing", -1, () -> x.report(state, 0));
        }
        for (int i = 0; i < 16; i++) {
            int place = i;
            Due.same("room of nothing", -1, () -> x.room(place, 0));
        }
        Due.same("nothing can be listed", 0, () -> x.list(0));
        Due.fails("more than nothing cannot", Due.ARGUMENT, () -> x.list(1));
        Due.same("two objects are apart", 0, () -> new AuditDraws().thing(0, 0));
        Due.same("two objects are apart", 0, () -> x.thing(0, 0));
    }

    private static void thingsAreNumbered() {
        AuditDraws x = new AuditDraws();
        Due.same("first thing", 0, () -> x.thing(0, 0));
        Due.same("second thing", 1, () -> x.thing(5, 15));
        Due.same("third thing", 2, () -> x.thing(0, 15));
        Due.same("place of the third", 2, () -> x.room(15, 1));
    }

    private static void wrongThings() {
        AuditDraws x = new AuditDraws();
        int[][] wrong = {{-1, 0}, {6, 0}, {0, -1}, {0, 16}, {Integer.MIN_VALUE, 0}, {0, Integer.MAX_VALUE}};
        for (int[] pair : wrong) {
            Due.fails("thing(" + pair[0] + ", " + pair[1] + ")", Due.NO_SUCH, () -> x.thing(pair[0], pair[1]));
        }
        Due.same("wrong things take no number", 0, () -> x.thing(0, 0));
    }

    private static void sixtyFourThings() {
        AuditDraws x = new AuditDraws();
        for (int i = 0; i < 64; i++) {
            int number = i;
            Due.same("thing " + i, number, () -> x.thing(number % 6, number % 16));
        }
        Due.fails("the 65th", Due.STATE, () -> x.thing(0, 0));
        Due.fails("no stratum comes ahead of 64", Due.NO_SUCH, () -> x.thing(6, 0));
        Due.fails("no place comes ahead of 64", Due.NO_SUCH, () -> x.thing(0, 16));
        Due.fails("65 of 64", Due.ARGUMENT, () -> x.list(65));
        Due.same("64 of 64", 64, () -> x.list(64));
        Due.fails("there is no thing 64", Due.NO_SUCH, () -> x.first(64, 0));
        Due.same("there is a thing 63", 0, () -> x.first(63, 0));
    }

    private static void emptyLists() {
        AuditDraws x = with(0, 1, 2);
        x.seed(42);
        Due.same("a list of two", 2, () -> x.list(2));
        x.seed(42);
        Due.same("an empty list", 0, () -> x.list(0));
        Due.fails("nothing is on it", Due.NO_SUCH, () -> x.drawn(0));
        Due.fails("nothing can be checked", Due.STATE, () -> x.check(0, 1, 2, 0));
        Due.same("nothing is unchecked", -1, () -> x.report(0, 0));
        AuditDraws twin = with(0, 1, 2);
        twin.seed(42);
        Due.same("an empty list draws nothing", listOf(twin, 3), () -> listOf(x, 3));
    }

    private static void wrongLists() {
        AuditDraws x = with(0, 0, 0, 0, 1, 1);
        AuditDraws twin = with(0, 0, 0, 0, 1, 1);
        x.seed(7);
        twin.seed(7);
        x.list(6);
        twin.list(6);
        x.check(0, 1, 2, 0);
        Due.fails("list(-1)", Due.ARGUMENT, () -> x.list(-1));
        Due.fails("list(7)", Due.ARGUMENT, () -> x.list(7));
        Due.fails("list(least)", Due.ARGUMENT, () -> x.list(Integer.MIN_VALUE));
        Due.fails("list(greatest)", Due.ARGUMENT, () -> x.list(Integer.MAX_VALUE));
        Due.same("a wrong list forgets no check", 0, () -> x.report(1, 0));
        for (int i = 0; i < 6; i++) {
            int k = i;
            Due.same("a wrong list leaves the list", twin.drawn(k), () -> x.drawn(k));
        }
        Due.same("a wrong list draws nothing", listOf(twin, 4), () -> listOf(x, 4));
    }

    // The draws below 4, 3, 2, 1 from the state 1, worked out by the document's words alone.
    private static void aListByHand() {
        java.math.BigInteger state = java.math.BigInteger.ONE;
        java.util.List<Integer> row = new java.util.ArrayList<>(java.util.List.of(0, 1, 2, 3));
        for (int i = 0; i < 4; i++) {
            state = state.multiply(new java.math.BigInteger("6364136223846793005"))
                .add(new java.math.BigInteger("1442695040888963407"))
                .mod(java.math.BigInteger.TWO.pow(64));
            int j = state.shiftRight(33).mod(java.math.BigInteger.valueOf(4 - i)).intValue();
            java.util.Collections.swap(row, i, i + j);
        }
        AuditDraws x = with(3, 3, 3, 3);
        x.seed(1);
        Due.same("four of four", row.toString().replaceAll("[\\[\\],]", ""), () -> listOf(x, 4));
    }

    private static void firstSeedIsZero() {
        AuditDraws x = with(0, 0, 0, 0, 0, 0, 0, 0);
        AuditDraws twin = with(0, 0, 0, 0, 0, 0, 0, 0);
        twin.seed(0);
        Due.same("without a seed it is 0", listOf(twin, 8), () -> listOf(x, 8));
    }

    private static void seedsOfAllBits() {
        // (-1 * factor + step) has its upper 31 bits set high: they must be read without sign.
        for (long s : new long[] {-1, Long.MIN_VALUE, Long.MAX_VALUE, 1L << 40, 42}) {
            AuditDraws x = with(2, 2, 2, 2, 2, 2, 2);
            x.seed(s);
            long state = s * 6364136223846793005L + 1442695040888963407L;
            long upper = Long.divideUnsigned(state, 1L << 33);
            x.list(1);
            Due.same("first drawn by seed " + s, upper % 7, () -> x.drawn(0));
        }
    }

    private static int countOf(AuditDraws x, int[] strata, int stratum, int size) {
        int count = 0;
        for (int k = 0; k < size; k++) {
            count += strata[x.drawn(k)] == stratum ? 1 : 0;
        }
        return count;
    }

    private static void givenBy(int[] strata, int n, int... want) {
        AuditDraws x = with(strata);
        x.list(n);
        for (int i = 0; i < 6; i++) {
            int stratum = i;
            Due.same("of " + n + " stratum " + i + " gives", want[i], () -> countOf(x, strata, stratum, n));
        }
    }

    private static void restsGoToTheGreatest() {
        // 3 of 7: 3*1, 3*2, 3*4 over 7 are 0 rest 3, 0 rest 6, 1 rest 5.
        givenBy(new int[] {0, 2, 2, 5, 5, 5, 5}, 3, 0, 0, 1, 0, 0, 2);
        // 4 of 7: 0 rest 4, 1 rest 1, 2 rest 2.
        givenBy(new int[] {0, 2, 2, 5, 5, 5, 5}, 4, 1, 0, 1, 0, 0, 2);
        givenBy(new int[] {0, 2, 2, 5, 5, 5, 5}, 7, 1, 0, 2, 0, 0, 4);
    }

    private static void equalRestsGoToTheLowerStratum() {
        givenBy(new int[] {5, 4, 3, 2, 1, 0}, 1, 1, 0, 0, 0, 0, 0);
        givenBy(new int[] {5, 4, 3, 2, 1, 0}, 4, 1, 1, 1, 1, 0, 0);
        givenBy(new int[] {5, 4, 3, 2, 1, 0}, 5, 1, 1, 1, 1, 1, 0);
        givenBy(new int[] {4, 4, 2, 2}, 1, 0, 0, 1, 0, 0, 0);
        givenBy(new int[] {4, 4, 2, 2}, 3, 0, 0, 2, 0, 1, 0);
    }

    private static void wholeListsHaveNoRepeats() {
        AuditDraws x = new AuditDraws();
        for (int i = 0; i < 64; i++) {
            x.thing((i * 5) % 6, i % 16);
        }
        x.seed(-77);
        x.list(64);
        java.util.Set<Integer> all = new java.util.TreeSet<>();
        int before = 0;
        for (int k = 0; k < 64; k++) {
            int thing = x.drawn(k);
            int stratum = (thing * 5) % 6;
            all.add(thing);
            boolean rising = stratum >= before;
            before = stratum;
            Due.same("stratum by stratum at " + k, true, () -> rising);
        }
        Due.same("different things", 64, all::size);
    }

    private static void theStateGoesOnFromListToList() {
        AuditDraws x = with(1, 1, 1, 1, 1, 1, 1, 1, 1);
        x.seed(5);
        String one = listOf(x, 9);
        Due.same("the second list is another one", false, () -> listOf(x, 9).equals(one));
        x.seed(5);
        Due.same("the seed brings the first one back", one, () -> listOf(x, 9));
        // The ninth draw is below 1: it counts all the same.
        AuditDraws eight = with(1, 1, 1, 1, 1, 1, 1, 1, 1);
        eight.seed(5);
        eight.list(8);
        eight.list(1);
        AuditDraws nine = with(1, 1, 1, 1, 1, 1, 1, 1, 1);
        nine.seed(5);
        nine.list(9);
        long state = 5;
        for (int i = 0; i < 10; i++) {
            state = state * 6364136223846793005L + 1442695040888963407L;
            if (i == 8) {
                Due.same("the ninth draw", (state >>> 33) % 9, () -> eight.drawn(0));
            }
        }
        nine.list(1);
        Due.same("the tenth draw", (state >>> 33) % 9, () -> nine.drawn(0));
    }

    private static void aLaterThingIsNotOnTheList() {
        AuditDraws x = with(0);
        x.list(1);
        x.thing(0, 3);
        Due.fails("drawn(1)", Due.NO_SUCH, () -> x.drawn(1));
        Due.fails("gone(1)", Due.STATE, () -> x.gone(1));
        Due.same("report", -1, () -> x.report(0, 1));
        Due.same("the next list may have it", 2, () -> x.list(2));
        Due.same("gone then", true, () -> x.gone(1));
    }

    private static void wrongPlacesOfTheList() {
        AuditDraws x = with(0, 1, 2);
        x.list(2);
        Due.same("drawn(1)", 1, () -> x.drawn(1));
        Due.fails("drawn(2)", Due.NO_SUCH, () -> x.drawn(2));
        Due.fails("drawn(-1)", Due.NO_SUCH, () -> x.drawn(-1));
        Due.fails("drawn(least)", Due.NO_SUCH, () -> x.drawn(Integer.MIN_VALUE));
        Due.fails("drawn(greatest)", Due.NO_SUCH, () -> x.drawn(Integer.MAX_VALUE));
    }
}
