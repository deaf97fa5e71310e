/** Promises 10 and 11: digit, good. */
public final class NumbersTest {
    private static final long MOST = 100000000000000000L;

    public static void main(String[] args) {
        knownDigits();
        knownGoods();
        theGreatestNumber();
        wrongNumbers();
        everyNumberHasOneGoodEnd();
        Due.end();
    }

    private static void digitIs(int kind, long number, int want) {
        Due.same("digit(" + kind + ", " + number + ")", want, () -> new AuditDraws().digit(kind, number));
    }

    private static void goodIs(int kind, long number, boolean want) {
        Due.same("good(" + kind + ", " + number + ")", want, () -> new AuditDraws().good(kind, number));
    }

    private static void knownDigits() {
        digitIs(0, 7992739871L, 3);
        digitIs(0, 5, 9);
        digitIs(0, 4, 2);
        digitIs(0, 50, 5);
        digitIs(0, 9, 1);
        digitIs(1, 978030640615L, 7);
        digitIs(1, 400638133393L, 1);
        digitIs(1, 10, 9);
        digitIs(1, 1, 7);
        digitIs(2, 1, 9);
        digitIs(2, 6, 10);
        digitIs(2, 10, 8);
        digitIs(2, 100000, 4);
        digitIs(2, 1000000, 9);
        digitIs(2, 10000000, 8);
        // 1*7 + 2*6 + 3*5 + 4*4 + 5*3 + 6*2 = 77
        digitIs(2, 123456, 0);
        for (int kind = 0; kind < 3; kind++) {
            digitIs(kind, 0, 0);
        }
    }

    private static void knownGoods() {
        goodIs(0, 79927398713L, true);
        goodIs(0, 79927398710L, false);
        goodIs(1, 9780306406157L, true);
        goodIs(1, 9780306406158L, false);
        goodIs(1, 4006381333931L, true);
        goodIs(2, 1234560, true);
        goodIs(2, 1234561, false);
        goodIs(2, 19, true);
        for (int kind = 0; kind < 3; kind++) {
            goodIs(kind, 0, true);
            for (int last = 1; last < 10; last++) {
                goodIs(kind, last, false);
            }
        }
        // The check digit of 6 by kind 2 is 10: no last digit makes it good.
        for (int last = 0; last < 10; last++) {
            goodIs(2, 60 + last, false);
        }
    }

    private static void theGreatestNumber() {
        digitIs(0, MOST, 9);
        digitIs(1, MOST, 9);
        digitIs(2, MOST, 4);
        digitIs(0, MOST - 1, 7);
        // Nine digits at even places and eight at odd ones, all 9: 243 + 72 = 315.
        digitIs(1, MOST - 1, 5);
        // Ahead of the last 0 the 1 stands at place 16 and weighs 2, 3 and 6.
        goodIs(0, MOST, false);
        goodIs(1, MOST, false);
        goodIs(2, MOST, false);
        // Sixteen digits 9 ahead weigh 144 by kind 0.
        goodIs(0, MOST - 4, true);
        goodIs(0, MOST - 10, false);
    }

    private static void wrongNumbers() {
        AuditDraws x = new AuditDraws();
        for (long wrong : new long[] {-1, MOST + 1, Long.MIN_VALUE, Long.MAX_VALUE}) {
            for (int i = 0; i < 3; i++) {
                int kind = i;
                Due.fails("digit of " + wrong, Due.ARGUMENT, () -> x.digit(kind, wrong));
                Due.fails("good of " + wrong, Due.ARGUMENT, () -> x.good(kind, wrong));
            }
        }
        for (int wrong : new int[] {-1, 3, Integer.MIN_VALUE, Integer.MAX_VALUE}) {
            Due.fails("digit of kind " + wrong, Due.NO_SUCH, () -> x.digit(wrong, 1));
            Due.fails("good of kind " + wrong, Due.NO_SUCH, () -> x.good(wrong, 1));
            Due.fails("the kind comes first", Due.NO_SUCH, () -> x.digit(wrong, -1));
            Due.fails("the kind comes first", Due.NO_SUCH, () -> x.good(wrong, -1));
        }
    }

    private static void everyNumberHasOneGoodEnd() {
        long number = 1;
        for (int i = 0; i < 16; i++) {
            number = (number * 10 + (i * 7 + 3) % 10);
            long ahead = number % (MOST / 10);
            for (int kind = 0; kind < 3; kind++) {
                int check = new AuditDraws().digit(kind, ahead);
                for (int last = 0; last < 10; last++) {
                    goodIs(kind, ahead * 10 + last, last == check);
                }
            }
        }
    }
}
