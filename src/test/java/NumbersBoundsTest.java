/** The boundary cases of A NUMBER and its CHECK DIGIT, and of promises 10 and 11. */
public final class NumbersBoundsTest {
    private static final long MOST = 100000000000000000L;
    private static final int[] BY_SIX = {2, 3, 4, 5, 6, 7};

    public static void main(String[] args) {
        kinds();
        numbersThatAreTaken();
        numbersThatAreRefused();
        theKindComesAheadOfTheNumber();
        doubledDigitsAboveNine();
        evenAndOddPlaces();
        weightsBySix();
        sumsAroundTens();
        sumsAroundElevens();
        theLastDigitOfAGoodNumber();
        goodNumbersOfOneDigit();
        noDigitStandsForTen();
        goodNumbersAtTheEnds();
        Due.end();
    }

    /** An object that has something to lose. */
    private static void busy(AuditDraws x) {
        for (int i = 0; i < 4; i++) {
            x.thing(0, i);
        }
        x.seed(4);
        x.list(3);
        x.gone(x.drawn(1));
        x.tag(0, 10, 2, 11);
        x.weight(0, 9);
    }

    private static void digitIs(int kind, long number, int want) {
        Due.same("digit(" + kind + ", " + number + ")", want, () -> new AuditDraws().digit(kind, number));
    }

    private static void goodIs(int kind, long number, boolean want) {
        Due.same("good(" + kind + ", " + number + ")", want, () -> new AuditDraws().good(kind, number));
    }

    /** The document's sum over the digits, written as a text. */
    private static int sum(int kind, long number) {
        String text = new StringBuilder(Long.toString(number)).reverse().toString();
        int sum = 0;
        for (int k = 0; k < text.length(); k++) {
            int digit = text.charAt(k) - '0';
            if (kind == 2) {
                sum += digit * BY_SIX[k % 6];
            } else if (k % 2 == 1) {
                sum += digit;
            } else {
                sum += kind == 1 ? 3 * digit : "0246813579".charAt(digit) - '0';
            }
        }
        return sum;
    }

    private static int missing(int kind, long number) {
        int multiple = kind == 2 ? 11 : 10;
        int missing = 0;
        while ((sum(kind, number) + missing) % multiple != 0) {
            missing++;
        }
        return missing;
    }

    private static void kinds() {
        // The sums of 18 are 7 + 1, 24 + 1 and 16 + 3.
        int[] want = {2, 5, 3};
        Twins.range("digit of kind", 0, 2, Due.NO_SUCH, NumbersBoundsTest::busy, (x, kind) -> x.digit(kind, 18),
            kind -> want[kind]);
        Twins.range("good by kind", 0, 2, Due.NO_SUCH, NumbersBoundsTest::busy, (x, kind) -> x.good(kind, 182),
            kind -> kind == 0);
        Twins.range("good by kind, 5", 0, 2, Due.NO_SUCH, NumbersBoundsTest::busy, (x, kind) -> x.good(kind, 185),
            kind -> kind == 1);
        Twins.range("good by kind, 3", 0, 2, Due.NO_SUCH, NumbersBoundsTest::busy, (x, kind) -> x.good(kind, 183),
            kind -> kind == 2);
        Twins.leavesNoTrace("a digit", 5, NumbersBoundsTest::busy, x -> x.digit(1, 18));
        Twins.leavesNoTrace("a good number", true, NumbersBoundsTest::busy, x -> x.good(2, 183));
    }

    private static void numbersThatAreTaken() {
        long[] taken = {0, 1, 9, 10, 11, 99, 100, 101, Integer.MAX_VALUE - 1L, Integer.MAX_VALUE,
            Integer.MAX_VALUE + 1L, (1L << 32) - 1, 1L << 32, (1L << 32) + 1, 999999999L, 1000000000L, 9999999999L,
            10000000000L, MOST / 10 - 1, MOST / 10, MOST / 10 + 1, MOST - 2, MOST - 1, MOST};
        for (int kind = 0; kind < 3; kind++) {
            for (long number : taken) {
                digitIs(kind, number, missing(kind, number));
                boolean closes = missing(kind, number / 10) == number % 10;
                goodIs(kind, number, closes);
            }
        }
        // 10 to the 17th has its 1 at place 17, which is odd, and 17 modulo 6 + 2 is 7.
        digitIs(0, MOST, 9);
        digitIs(1, MOST, 9);
        digitIs(2, MOST, 4);
        for (int kind = 0; kind < 3; kind++) {
            digitIs(kind, 0, 0);
        }
    }

    private static void numbersThatAreRefused() {
        long[] refused = {-1, -2, -10, MOST + 1, MOST + 2, 10 * MOST, Long.MIN_VALUE, Long.MAX_VALUE,
            Integer.MIN_VALUE, -(1L << 32), -MOST};
        for (long number : refused) {
            for (int i = 0; i < 3; i++) {
                int kind = i;
                Twins.refused("digit(" + i + ", " + number + ")", Due.ARGUMENT, NumbersBoundsTest::busy,
                    x -> x.digit(kind, number));
                Twins.refused("good(" + i + ", " + number + ")", Due.ARGUMENT, NumbersBoundsTest::busy,
                    x -> x.good(kind, number));
            }
        }
    }

    private static void theKindComesAheadOfTheNumber() {
        for (int kind : new int[] {-1, 3}) {
            for (long number : new long[] {-1, MOST + 1}) {
                Twins.refused("digit(" + kind + ", " + number + ")", Due.NO_SUCH, NumbersBoundsTest::busy,
                    x -> x.digit(kind, number));
                Twins.refused("good(" + kind + ", " + number + ")", Due.NO_SUCH, NumbersBoundsTest::busy,
                    x -> x.good(kind, number));
            }
        }
    }

    private static void doubledDigitsAboveNine() {
        // Doubled: 0, 2, 4, 6, 8, then 10, 12, .. less 9: 1, 3, 5, 7, 9.
        int[] want = {0, 8, 6, 4, 2, 9, 7, 5, 3, 1};
        for (int digit = 0; digit < 10; digit++) {
            digitIs(0, digit, want[digit]);
            digitIs(0, digit * 100L, want[digit]);
            digitIs(0, digit * (MOST / 10), want[digit]);
            // At an odd place nothing is doubled.
            digitIs(0, digit * 10L, (10 - digit) % 10);
            digitIs(0, digit * 1000L, (10 - digit) % 10);
        }
    }

    private static void evenAndOddPlaces() {
        long one = 1;
        for (int k = 0; k <= 17; k++) {
            digitIs(0, one, k % 2 == 0 ? 8 : 9);
            digitIs(1, one, k % 2 == 0 ? 7 : 9);
            one *= 10;
        }
        for (int digit = 0; digit < 10; digit++) {
            digitIs(1, digit, (30 - 3 * digit) % 10);
            digitIs(1, digit * 10L, (10 - digit) % 10);
        }
    }

    private static void weightsBySix() {
        int[] want = {9, 8, 7, 6, 5, 4, 9, 8, 7, 6, 5, 4, 9, 8, 7, 6, 5, 4};
        long one = 1;
        for (int k = 0; k <= 17; k++) {
            digitIs(2, one, want[k]);
            one *= 10;
        }
    }

    private static void sumsAroundTens() {
        // By kind 0 the sums 9, 10 and 11, then 19, 20 and 21.
        digitIs(0, 90, 1);
        digitIs(0, 95, 0);
        digitIs(0, 91, 9);
        digitIs(0, 9180, 1);
        digitIs(0, 9190, 0);
        digitIs(0, 9195, 9);
        // The same sums by kind 1.
        digitIs(1, 3, 1);
        digitIs(1, 13, 0);
        digitIs(1, 23, 9);
        digitIs(1, 16, 1);
        digitIs(1, 26, 0);
        digitIs(1, 36, 9);
    }

    private static void sumsAroundElevens() {
        // The sums 10, 11, 12 and 13, then 21, 22, 23 and 24.
        digitIs(2, 5, 1);
        digitIs(2, 14, 0);
        digitIs(2, 6, 10);
        digitIs(2, 15, 9);
        digitIs(2, 70, 1);
        digitIs(2, 45, 0);
        digitIs(2, 54, 10);
        digitIs(2, 80, 9);
    }

    private static void theLastDigitOfAGoodNumber() {
        // The check digits of 1: 8, 7 and 9; those of 7992739871 and 978030640615: 3 and 7.
        int[] ofOne = {8, 7, 9};
        for (int kind = 0; kind < 3; kind++) {
            for (int last = 0; last < 10; last++) {
                goodIs(kind, 10 + last, last == ofOne[kind]);
            }
        }
        for (int last = 0; last < 10; last++) {
            goodIs(0, 79927398710L + last, last == 3);
            goodIs(1, 9780306406150L + last, last == 7);
            // 77 is a multiple of 11 by itself.
            goodIs(2, 1234560 + last, last == 0);
        }
    }

    private static void goodNumbersOfOneDigit() {
        for (int kind = 0; kind < 3; kind++) {
            for (int number = 0; number < 10; number++) {
                goodIs(kind, number, number == 0);
            }
        }
    }

    private static void noDigitStandsForTen() {
        // The sums 12, 12 and 23, one more than a multiple of 11, want a 10.
        for (long ahead : new long[] {6, 40, 54}) {
            digitIs(2, ahead, 10);
            for (int last = 0; last < 10; last++) {
                goodIs(2, ahead * 10 + last, false);
            }
        }
        // The sum 11 wants a 0, 13 a 9.
        digitIs(2, 14, 0);
        goodIs(2, 140, true);
        goodIs(2, 141, false);
        digitIs(2, 15, 9);
        goodIs(2, 159, true);
        goodIs(2, 158, false);
    }

    private static void goodNumbersAtTheEnds() {
        // Ahead of its last digit 10 to the 17th has a 1 at place 16, which weighs 2, 3 and 6.
        for (int kind = 0; kind < 3; kind++) {
            goodIs(kind, MOST, false);
        }
        // Sixteen digits 9 ahead have the sums 16 * 9, 8 * 27 + 8 * 9 and 68 * 9.
        for (int last = 0; last < 10; last++) {
            long number = MOST - 10 + last;
            goodIs(0, number, last == 6);
            goodIs(1, number, last == 2);
            goodIs(2, number, last == 4);
        }
    }
}
