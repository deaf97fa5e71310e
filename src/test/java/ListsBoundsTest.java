import java.math.BigInteger;
import java.util.ArrayList;
import java.util.Collections;
import java.util.List;

/** The boundary cases of the terms THINGS, THE DRAW and A LIST, and of promises 1 to 5. */
public final class ListsBoundsTest {
    private static final BigInteger FACTOR = new BigInteger("6364136223846793005");
    private static final BigInteger STEP = new BigInteger("1442695040888963407");
    private static final BigInteger WRAP = BigInteger.TWO.pow(64);

    public static void main(String[] args) {
        aNewObjectHasNoThings();
        aNewObjectHasAnEmptyList();
        theStateIsZeroAtFirst();
        theStateWrapsAt64Bits();
        theUpper31BitsHaveNoSign();
        whatIsDrawnIsModuloN();
        aDrawBelowOneMovesTheState();
        theLatestSeedCounts();
        aSeedChangesTheDrawAlone();
        strataOfThings();
        placesOfThings();
        sixtyFourThings();
        theSixtyFifthThingIsRefused();
        sizesOfLists();
        aRefusedListForgetsNothing();
        anEmptyListForgetsAndDrawsNothing();
        aWholeListHasEachThingOnce();
        exactSharesLeaveNothingMissing();
        theGreatestRestGivesOne();
        ofEqualRestsTheLowerStratumGivesOne();
        oneToFiveAreMissing();
        strataWithoutThingsGiveNone();
        sharesOfSixtyFour();
        aRowGoesByNumbers();
        strataComeInTheirOrder();
        aStratumThatGivesNoneDrawsNothing();
        theFirstOfTheRowComeAlone();
        placesOfTheLatestList();
        placesOfTheEmptyList();
        placesOfAShorterList();
        Due.end();
    }

    private static Twins.Setup things(int... strata) {
        return x -> {
            for (int stratum : strata) {
                x.thing(stratum, 0);
            }
        };
    }

    private static Twins.Setup sameThings(int count, int stratum) {
        int[] strata = new int[count];
        java.util.Arrays.fill(strata, stratum);
        return things(strata);
    }

    private static void sixtyFour(AuditDraws x) {
        for (int i = 0; i < 64; i++) {
            x.thing(i % 6, i % 16);
        }
    }

    /** Eight things; of six on the list one is found, one elsewhere, one gone; one has a row and a weight. */
    private static void busy(AuditDraws x) {
        for (int i = 0; i < 8; i++) {
            x.thing(i % 2, i);
        }
        x.seed(11);
        x.list(6);
        x.check(x.drawn(0), 1, 2, x.drawn(0));
        x.check(x.drawn(1), 1, 2, 15);
        x.gone(x.drawn(2));
        x.tag(1, 10, 4, 12);
        x.weight(1, 50);
    }

    private static String listOf(AuditDraws x, int n) {
        List<Integer> all = new ArrayList<>();
        int size = x.list(n);
        for (int k = 0; k < size; k++) {
            all.add(x.drawn(k));
        }
        return all.toString();
    }

    /** The document's draw, by numbers that do not wrap by themselves. */
    private static final class Draw {
        private BigInteger state;

        Draw(long seed) {
            state = BigInteger.valueOf(seed).mod(WRAP);
        }

        int below(int n) {
            state = state.multiply(FACTOR).add(STEP).mod(WRAP);
            return state.divide(BigInteger.TWO.pow(33)).mod(BigInteger.valueOf(n)).intValue();
        }

        List<Integer> take(int k, List<Integer> of) {
            List<Integer> row = new ArrayList<>(of);
            for (int i = 0; i < k; i++) {
                Collections.swap(row, i, i + below(row.size() - i));
            }
            return row.subList(0, k);
        }
    }

    private static List<Integer> upTo(int count) {
        List<Integer> all = new ArrayList<>();
        for (int i = 0; i < count; i++) {
            all.add(i);
        }
        return all;
    }

    /** The seed by which the first draw brings the state to a given one. */
    private static long seedAheadOf(BigInteger state) {
        return state.subtract(STEP).multiply(FACTOR.modInverse(WRAP)).mod(WRAP).longValue();
    }

    private static void firstDrawn(String what, BigInteger state, int things, long want) {
        AuditDraws x = Twins.make(sameThings(things, 2));
        x.seed(seedAheadOf(state));
        x.list(1);
        Due.same(what, want, () -> x.drawn(0));
    }

    // Promise 1

    private static void aNewObjectHasNoThings() {
        for (int i = -1; i <= 1; i++) {
            int thing = i;
            Twins.Setup none = x -> { };
            Twins.refused("check of " + i, Due.NO_SUCH, none, x -> x.check(thing, 1, 2, 0));
            Twins.refused("gone of " + i, Due.NO_SUCH, none, x -> x.gone(thing));
            Twins.refused("tag of " + i, Due.NO_SUCH, none, x -> x.tag(thing, 1, 0, 1));
            Twins.refused("first of " + i, Due.NO_SUCH, none, x -> x.first(thing, 0));
            Twins.refused("seen of " + i, Due.NO_SUCH, none, x -> x.seen(thing, 0));
            Twins.refused("weight of " + i, Due.NO_SUCH, none, x -> x.weight(thing, 1));
        }
        for (int i = 0; i < 16; i++) {
            int place = i;
            Due.same("nothing in room " + i, AuditDraws.NONE, () -> new AuditDraws().room(place, 0));
        }
        Due.same("the first thing is 0", 0, () -> new AuditDraws().thing(0, 0));
    }

    private static void aNewObjectHasAnEmptyList() {
        Twins.refused("drawn(0)", Due.NO_SUCH, x -> { }, x -> x.drawn(0));
        Twins.refused("drawn(0) with a thing", Due.NO_SUCH, things(0), x -> x.drawn(0));
        Twins.refused("check ahead of a list", Due.STATE, things(0), x -> x.check(0, 1, 2, 0));
        Twins.refused("gone ahead of a list", Due.STATE, things(0), x -> x.gone(0));
        for (int i = 0; i < 4; i++) {
            int state = i;
            Due.same("nothing in state " + i, AuditDraws.NONE, () -> Twins.make(things(0)).report(state, 0));
        }
        for (int i = 0; i < 6; i++) {
            int stratum = i;
            Due.same("share above of " + i, 0, () -> new AuditDraws().share(stratum, 0));
            Due.same("share below of " + i, 1, () -> new AuditDraws().share(stratum, 1));
            Due.same("next share of " + i, 100, () -> new AuditDraws().next(stratum));
        }
    }

    // Promise 2 and THE DRAW

    private static void theStateIsZeroAtFirst() {
        AuditDraws x = Twins.make(sameThings(64, 0));
        String want = new Draw(0).take(64, upTo(64)).toString();
        Due.same("without a seed", want, () -> listOf(x, 64));
        AuditDraws zero = Twins.make(sameThings(64, 0));
        zero.seed(0);
        Due.same("with the seed 0", want, () -> listOf(zero, 64));
        for (long seed : new long[] {-1, 1}) {
            AuditDraws other = Twins.make(sameThings(64, 0));
            other.seed(seed);
            Due.same("another list by the seed " + seed, false, () -> listOf(other, 64).equals(want));
        }
    }

    private static void theStateWrapsAt64Bits() {
        // From 1 the state stays below 2 to the 63rd, from 2 below 2 to the 64th, from 3 it wraps.
        long[] seeds = {1, 2, 3, -1, -2, Long.MAX_VALUE, Long.MAX_VALUE - 1, Long.MIN_VALUE, Long.MIN_VALUE + 1,
            Integer.MAX_VALUE, Integer.MAX_VALUE + 1L, (1L << 32) - 1, 1L << 32, Integer.MIN_VALUE - 1L};
        for (long seed : seeds) {
            AuditDraws x = Twins.make(sameThings(64, 4));
            x.seed(seed);
            String want = new Draw(seed).take(64, upTo(64)).toString();
            Due.same("list by the seed " + seed, want, () -> listOf(x, 64));
        }
        firstDrawn("the state wraps to 0", BigInteger.ZERO, 64, 0);
        firstDrawn("one ahead of the wrap", WRAP.subtract(BigInteger.ONE), 64, 63);
        firstDrawn("one behind the wrap", BigInteger.ONE, 64, 0);
    }

    private static void theUpper31BitsHaveNoSign() {
        BigInteger half = BigInteger.TWO.pow(63);
        firstDrawn("the state of the sign alone", half, 57, 1073741824L % 57);
        firstDrawn("one less", half.subtract(BigInteger.ONE), 57, 1073741823L % 57);
        firstDrawn("one more", half.add(BigInteger.ONE), 57, 1073741824L % 57);
        firstDrawn("all bits", WRAP.subtract(BigInteger.ONE), 57, 2147483647L % 57);
        // The 33 lower bits are not drawn.
        BigInteger lowest = BigInteger.TWO.pow(33);
        firstDrawn("the lowest bit that is drawn", lowest, 57, 1);
        firstDrawn("one less", lowest.subtract(BigInteger.ONE), 57, 0);
        firstDrawn("one more", lowest.add(BigInteger.ONE), 57, 1);
        firstDrawn("twice that", lowest.add(lowest), 57, 2);
    }

    private static void whatIsDrawnIsModuloN() {
        for (int n : new int[] {1, 2, 3, 63, 64}) {
            for (int above = 0; above <= 2; above++) {
                long upper = n - 1 + above;
                BigInteger state = BigInteger.valueOf(upper).shiftLeft(33);
                firstDrawn(upper + " modulo " + n, state, n, upper % n);
            }
        }
    }

    private static void aDrawBelowOneMovesTheState() {
        // One thing of stratum 0 takes a draw below 1; that of stratum 1 is drawn behind it.
        int[] strata = {0, 1, 1, 1, 1, 1, 1, 1};
        AuditDraws x = Twins.make(things(strata));
        x.seed(3);
        Draw draw = new Draw(3);
        draw.below(1);
        List<Integer> want = new ArrayList<>(List.of(0));
        want.addAll(draw.take(7, List.of(1, 2, 3, 4, 5, 6, 7)));
        Due.same("a stratum of one thing", want.toString(), () -> listOf(x, 8));
        // The last thing of a row takes one too: the next list goes on behind it.
        want.clear();
        want.add(0);
        draw.below(1);
        want.addAll(draw.take(7, List.of(1, 2, 3, 4, 5, 6, 7)));
        Due.same("the list behind it", want.toString(), () -> listOf(x, 8));
    }

    private static void theLatestSeedCounts() {
        AuditDraws x = Twins.make(sameThings(20, 0));
        x.seed(Long.MAX_VALUE);
        x.seed(Long.MIN_VALUE);
        String want = new Draw(Long.MIN_VALUE).take(20, upTo(20)).toString();
        Due.same("the latest seed", want, () -> listOf(x, 20));
        Due.same("the state goes on", false, () -> listOf(x, 20).equals(want));
        x.seed(Long.MIN_VALUE);
        Due.same("the seed again", want, () -> listOf(x, 20));
    }

    private static void aSeedChangesTheDrawAlone() {
        // Both get the same seed in the end, so all else must be the same.
        Twins.Setup seeded = x -> {
            busy(x);
            x.seed(99);
        };
        Twins.leavesNoTrace("a seed again", "done", seeded, x -> {
            x.seed(-5);
            x.seed(99);
            return "done";
        });
    }

    // Promise 3

    private static void strataOfThings() {
        Twins.range("thing of stratum", 0, 5, Due.NO_SUCH, ListsBoundsTest::busy, (x, s) -> x.thing(s, 3), s -> 8);
        for (int i = 0; i < 6; i++) {
            int stratum = i;
            AuditDraws x = new AuditDraws();
            x.thing(stratum, 0);
            x.list(1);
            x.check(0, 1, 2, 0);
            for (int j = 0; j < 6; j++) {
                int asked = j;
                Due.same("of stratum " + i + " alone", i == j ? 50 : 100, () -> x.next(asked));
            }
        }
    }

    private static void placesOfThings() {
        Twins.range("thing at place", 0, 15, Due.NO_SUCH, ListsBoundsTest::busy, (x, p) -> x.thing(1, p), p -> 8);
        for (int i = 0; i < 16; i++) {
            int place = i;
            AuditDraws x = new AuditDraws();
            x.thing(0, place);
            for (int j = 0; j < 16; j++) {
                int asked = j;
                Due.same("at place " + i + " alone", i == j ? 0 : AuditDraws.NONE, () -> x.room(asked, 0));
            }
        }
        Twins.refused("neither stratum nor place", Due.NO_SUCH, ListsBoundsTest::busy, x -> x.thing(6, 16));
    }

    private static void sixtyFourThings() {
        AuditDraws x = new AuditDraws();
        for (int i = 0; i < 64; i++) {
            int number = i;
            Due.fails("no thing " + i + " yet", Due.NO_SUCH, () -> x.first(number, 0));
            Due.same("thing " + i, number, () -> x.thing(5, 15));
            Due.same("a thing " + i + " now", 0, () -> x.first(number, 0));
        }
        Due.fails("no thing 64", Due.NO_SUCH, () -> x.first(64, 0));
    }

    private static void theSixtyFifthThingIsRefused() {
        Twins.Setup full = ListsBoundsTest::sixtyFour;
        Twins.refused("the 65th thing", Due.STATE, full, x -> x.thing(0, 0));
        Twins.refused("the 65th thing at the other ends", Due.STATE, full, x -> x.thing(5, 15));
        for (int wrong : new int[] {-1, 6}) {
            Twins.refused("stratum " + wrong + " ahead of 64", Due.NO_SUCH, full, x -> x.thing(wrong, 0));
        }
        for (int wrong : new int[] {-1, 16}) {
            Twins.refused("place " + wrong + " ahead of 64", Due.NO_SUCH, full, x -> x.thing(0, wrong));
        }
        Twins.Setup listed = x -> {
            sixtyFour(x);
            x.list(64);
            x.gone(63);
        };
        Twins.refused("the 65th thing with a list", Due.STATE, listed, x -> x.thing(0, 0));
        AuditDraws x = Twins.make(full);
        Due.fails("refused", Due.STATE, () -> x.thing(0, 0));
        Due.fails("refused again", Due.STATE, () -> x.thing(0, 0));
    }

    // Promise 4

    private static void sizesOfLists() {
        Twins.range("list without things of", 0, 0, Due.ARGUMENT, x -> { }, AuditDraws::list, n -> n);
        Twins.range("list with a thing of", 0, 1, Due.ARGUMENT, things(4), AuditDraws::list, n -> n);
        Twins.range("list with two things of", 0, 2, Due.ARGUMENT, things(4, 1), AuditDraws::list, n -> n);
        Twins.range("list with 63 things of", 0, 63, Due.ARGUMENT, sameThings(63, 3), AuditDraws::list, n -> n);
        Twins.range("list with 64 things of", 0, 64, Due.ARGUMENT, ListsBoundsTest::sixtyFour, AuditDraws::list,
            n -> n);
        // One more thing moves the bound by one.
        AuditDraws x = Twins.make(things(0, 0));
        Due.fails("three of two", Due.ARGUMENT, () -> x.list(3));
        x.thing(0, 0);
        Due.same("three of three", 3, () -> x.list(3));
    }

    private static void aRefusedListForgetsNothing() {
        Twins.range("list over a busy one of", 0, 8, Due.ARGUMENT, ListsBoundsTest::busy, AuditDraws::list, n -> n);
        Twins.Setup whole = x -> {
            sixtyFour(x);
            x.list(64);
            x.check(0, 1, 2, 0);
            x.check(1, 1, 2, 5);
            x.gone(2);
        };
        Twins.refused("65 over a whole list", Due.ARGUMENT, whole, x -> x.list(65));
        Twins.refused("-1 over a whole list", Due.ARGUMENT, whole, x -> x.list(-1));
    }

    private static void anEmptyListForgetsAndDrawsNothing() {
        AuditDraws x = Twins.make(ListsBoundsTest::busy);
        Due.same("an empty list", 0, () -> x.list(0));
        Due.fails("nothing is drawn", Due.NO_SUCH, () -> x.drawn(0));
        for (int i = 0; i < 4; i++) {
            int state = i;
            Due.same("nothing in state " + i, AuditDraws.NONE, () -> x.report(state, 0));
        }
        for (int i = 0; i < 8; i++) {
            int thing = i;
            Due.fails("not on it: " + i, Due.STATE, () -> x.gone(thing));
        }
        x.seed(17);
        x.list(0);
        AuditDraws twin = Twins.make(ListsBoundsTest::busy);
        twin.seed(17);
        Due.same("an empty list moves no state", listOf(twin, 8), () -> listOf(x, 8));
        Due.same("an empty list of no things", 0, () -> new AuditDraws().list(0));
    }

    private static void aWholeListHasEachThingOnce() {
        for (int count : new int[] {1, 2, 63, 64}) {
            AuditDraws x = new AuditDraws();
            for (int i = 0; i < count; i++) {
                x.thing(i * 5 % 6, 0);
            }
            x.seed(count);
            x.list(count);
            List<Integer> all = new ArrayList<>();
            for (int k = 0; k < count; k++) {
                all.add(x.drawn(k));
            }
            Collections.sort(all);
            Due.same("all of " + count, upTo(count), () -> all);
        }
    }

    /** Makes so many things of each stratum and compares how many of each are on a list of n. */
    private static void gives(int n, int[] sizes, int... want) {
        AuditDraws x = new AuditDraws();
        List<Integer> strata = new ArrayList<>();
        // From the last stratum to the first, so that numbers and strata are not in one order.
        for (int stratum = 5; stratum >= 0; stratum--) {
            for (int i = 0; i < sizes[stratum]; i++) {
                x.thing(stratum, 0);
                strata.add(stratum);
            }
        }
        x.seed(n);
        x.list(n);
        int[] got = new int[6];
        for (int k = 0; k < n; k++) {
            got[strata.get(x.drawn(k))]++;
        }
        Due.same(n + " of " + java.util.Arrays.toString(sizes), java.util.Arrays.toString(want),
            () -> java.util.Arrays.toString(got));
    }

    private static int[] sizes(int... ofStrata) {
        return ofStrata;
    }

    private static void exactSharesLeaveNothingMissing() {
        gives(2, sizes(3, 3, 0, 0, 0, 0), 1, 1, 0, 0, 0, 0);
        gives(4, sizes(3, 3, 0, 0, 0, 0), 2, 2, 0, 0, 0, 0);
        gives(5, sizes(2, 8, 0, 0, 0, 0), 1, 4, 0, 0, 0, 0);
        gives(32, sizes(2, 4, 8, 16, 30, 4), 1, 2, 4, 8, 15, 2);
        // A step less and a step more: 4 * 2 and 4 * 8, 6 * 2 and 6 * 8 over 10.
        gives(4, sizes(2, 8, 0, 0, 0, 0), 1, 3, 0, 0, 0, 0);
        gives(6, sizes(2, 8, 0, 0, 0, 0), 1, 5, 0, 0, 0, 0);
    }

    private static void theGreatestRestGivesOne() {
        // Rests that differ by one, the greater one in the lower stratum, then in the higher one.
        gives(1, sizes(4, 3, 0, 0, 0, 0), 1, 0, 0, 0, 0, 0);
        gives(1, sizes(3, 4, 0, 0, 0, 0), 0, 1, 0, 0, 0, 0);
        gives(1, sizes(3, 0, 0, 0, 0, 4), 0, 0, 0, 0, 0, 1);
        gives(1, sizes(4, 0, 0, 0, 0, 3), 1, 0, 0, 0, 0, 0);
        // 2 * 1 over 3 is 0 with the rest 2, 2 * 2 over 3 is 1 with the rest 1.
        gives(2, sizes(1, 2, 0, 0, 0, 0), 1, 1, 0, 0, 0, 0);
        gives(2, sizes(2, 1, 0, 0, 0, 0), 1, 1, 0, 0, 0, 0);
        // 3 of 7: the rests 3, 6 and 5; 4 of 7: 4, 1 and 2; 6 of 7: 6, 5 and 3.
        gives(3, sizes(1, 2, 4, 0, 0, 0), 0, 1, 2, 0, 0, 0);
        gives(4, sizes(1, 2, 4, 0, 0, 0), 1, 1, 2, 0, 0, 0);
        gives(6, sizes(1, 2, 4, 0, 0, 0), 1, 2, 3, 0, 0, 0);
    }

    private static void ofEqualRestsTheLowerStratumGivesOne() {
        gives(1, sizes(3, 3, 0, 0, 0, 0), 1, 0, 0, 0, 0, 0);
        gives(3, sizes(3, 3, 0, 0, 0, 0), 2, 1, 0, 0, 0, 0);
        gives(5, sizes(3, 3, 0, 0, 0, 0), 3, 2, 0, 0, 0, 0);
        gives(1, sizes(0, 0, 0, 0, 1, 1), 0, 0, 0, 0, 1, 0);
        gives(1, sizes(2, 3, 0, 3, 0, 0), 0, 1, 0, 0, 0, 0);
        // The rests 4, 12, 12, 12, and two are missing: the lower ones of those that are equal.
        gives(2, sizes(2, 6, 6, 6, 0, 0), 0, 1, 1, 0, 0, 0);
        // The rest counts, not the share: 5 * 1 and 5 * 3 over 10 both leave 5.
        gives(5, sizes(1, 3, 6, 0, 0, 0), 1, 1, 3, 0, 0, 0);
    }

    private static void oneToFiveAreMissing() {
        for (int n = 0; n <= 6; n++) {
            int[] want = new int[6];
            java.util.Arrays.fill(want, 0, n, 1);
            gives(n, sizes(1, 1, 1, 1, 1, 1), want);
        }
        gives(11, sizes(2, 2, 2, 2, 2, 2), 2, 2, 2, 2, 2, 1);
        gives(7, sizes(2, 2, 2, 2, 2, 2), 2, 1, 1, 1, 1, 1);
    }

    private static void strataWithoutThingsGiveNone() {
        gives(1, sizes(0, 1, 0, 1, 0, 1), 0, 1, 0, 0, 0, 0);
        gives(2, sizes(0, 1, 0, 1, 0, 1), 0, 1, 0, 1, 0, 0);
        gives(3, sizes(0, 1, 0, 1, 0, 1), 0, 1, 0, 1, 0, 1);
        gives(1, sizes(0, 0, 0, 0, 0, 2), 0, 0, 0, 0, 0, 1);
        gives(0, sizes(0, 0, 0, 0, 0, 0), 0, 0, 0, 0, 0, 0);
    }

    private static void sharesOfSixtyFour() {
        int[] sizes = sizes(11, 11, 11, 11, 10, 10);
        gives(1, sizes, 1, 0, 0, 0, 0, 0);
        // 32 * 11 over 64 is 5 with the rest 32, 32 * 10 over 64 is 5.
        gives(32, sizes, 6, 6, 5, 5, 5, 5);
        // 63 * 11 over 64 is 10 with the rest 53, 63 * 10 over 64 is 9 with the rest 54.
        gives(63, sizes, 11, 11, 11, 10, 10, 10);
        gives(64, sizes, 11, 11, 11, 11, 10, 10);
        gives(63, sizes(0, 64, 0, 0, 0, 0), 0, 63, 0, 0, 0, 0);
        gives(64, sizes(0, 0, 0, 0, 0, 64), 0, 0, 0, 0, 0, 64);
        gives(63, sizes(63, 0, 0, 0, 0, 1), 62, 0, 0, 0, 0, 1);
        gives(1, sizes(1, 0, 0, 0, 0, 63), 0, 0, 0, 0, 0, 1);
    }

    private static void aRowGoesByNumbers() {
        AuditDraws x = Twins.make(things(1, 0, 1, 0, 0, 1, 1));
        for (long seed = 0; seed < 8; seed++) {
            x.seed(seed);
            Draw draw = new Draw(seed);
            List<Integer> want = new ArrayList<>(draw.take(3, List.of(1, 3, 4)));
            want.addAll(draw.take(4, List.of(0, 2, 5, 6)));
            // The row is laid anew for each list, whatever the list ahead of it changed over.
            Due.same("list by the seed " + seed, want.toString(), () -> listOf(x, 7));
        }
    }

    private static void strataComeInTheirOrder() {
        AuditDraws x = Twins.make(things(5, 4, 3, 2, 1, 0));
        Due.same("a thing of each", "[5, 4, 3, 2, 1, 0]", () -> listOf(x, 6));
    }

    private static void aStratumThatGivesNoneDrawsNothing() {
        // Of one list stratum 0 has no thing, of the other it gives none: 1 * 2 and 1 * 9 over 11.
        AuditDraws none = Twins.make(sameThings(9, 5));
        none.seed(8);
        Due.same("no thing", new Draw(8).take(1, upTo(9)).toString(), () -> listOf(none, 1));
        AuditDraws two = Twins.make(things(5, 5, 5, 5, 5, 5, 5, 5, 5, 0, 0));
        two.seed(8);
        Due.same("gives none", new Draw(8).take(1, upTo(9)).toString(), () -> listOf(two, 1));
    }

    private static void theFirstOfTheRowComeAlone() {
        for (int size : new int[] {1, 2, 8, 9, 10}) {
            AuditDraws x = Twins.make(sameThings(10, 1));
            x.seed(size);
            List<Integer> want = new Draw(size).take(size, upTo(10));
            Due.same(size + " of 10", want.toString(), () -> listOf(x, size));
            for (int i = 0; i < 10; i++) {
                int thing = i;
                String due = want.contains(i) ? "true" : "throws." + Due.STATE.getName();
                Due.same("gone of " + i + ", " + size + " of 10", due, () -> x.gone(thing));
            }
        }
    }

    // Promise 5

    private static void placesOfTheLatestList() {
        for (int size : new int[] {1, 2, 5, 8}) {
            Twins.Setup listed = x -> {
                busy(x);
                x.seed(31);
                x.list(size);
            };
            Draw draw = new Draw(31);
            List<Integer> want = new ArrayList<>(draw.take((size + 1) / 2, List.of(0, 2, 4, 6)));
            want.addAll(draw.take(size / 2, List.of(1, 3, 5, 7)));
            Twins.range("of " + size + " drawn", 0, size - 1, Due.NO_SUCH, listed, AuditDraws::drawn, want::get);
            Twins.leavesNoTrace("drawn(0)", want.get(0), listed, x -> x.drawn(0));
        }
    }

    private static void placesOfTheEmptyList() {
        Twins.Setup empty = x -> {
            busy(x);
            x.list(0);
        };
        for (int k : new int[] {-1, 0, 1, Integer.MIN_VALUE, Integer.MAX_VALUE}) {
            Twins.refused("drawn(" + k + ") of the empty list", Due.NO_SUCH, empty, x -> x.drawn(k));
            Twins.refused("drawn(" + k + ") at first", Due.NO_SUCH, things(1), x -> x.drawn(k));
        }
    }

    private static void placesOfAShorterList() {
        AuditDraws x = Twins.make(sameThings(5, 0));
        x.list(5);
        Due.same("five are on the first", true, () -> x.drawn(4) >= 0);
        x.list(3);
        Due.same("three are on the second", true, () -> x.drawn(2) >= 0);
        Due.fails("no fourth of it", Due.NO_SUCH, () -> x.drawn(3));
        Due.fails("no fifth of it", Due.NO_SUCH, () -> x.drawn(4));
        x.thing(0, 0);
        Due.fails("a new thing is not on it", Due.NO_SUCH, () -> x.drawn(3));
    }
}
