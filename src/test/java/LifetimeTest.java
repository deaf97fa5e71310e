import java.math.BigInteger;
import java.util.ArrayList;
import java.util.Collections;
import java.util.List;

/** "An object is used for at most 512 calls": up to the 512th one each answer is due, however dear the calls. */
public final class LifetimeTest {
    private static final int CALLS = 512;
    private static final int LAST_HOUR = 1000000;

    public static void main(String[] args) {
        listsToTheEnd();
        rowsToTheEnd();
        weightsToTheEnd();
        refusedCallsToTheEnd();
        Due.end();
    }

    private static AuditDraws things(int count) {
        AuditDraws x = new AuditDraws();
        for (int i = 0; i < count; i++) {
            x.thing(0, 0);
        }
        return x;
    }

    private static void listsToTheEnd() {
        AuditDraws x = things(64);
        BigInteger state = BigInteger.ZERO;
        List<Integer> row = new ArrayList<>();
        for (int call = 65; call < CALLS; call++) {
            Due.same("list, call " + call, 64, () -> x.list(64));
            row.clear();
            for (int i = 0; i < 64; i++) {
                row.add(i);
            }
            for (int i = 0; i < 64; i++) {
                state = state.multiply(new BigInteger("6364136223846793005"))
                    .add(new BigInteger("1442695040888963407")).mod(BigInteger.TWO.pow(64));
                int j = state.shiftRight(33).mod(BigInteger.valueOf(64 - i)).intValue();
                Collections.swap(row, i, i + j);
            }
        }
        Due.same("drawn, the last call", row.get(31), () -> x.drawn(31));
    }

    private static void rowsToTheEnd() {
        // 20 things, 480 rows, 11 refused ones and a last question.
        AuditDraws x = things(20);
        for (int i = 0; i < 480; i++) {
            int row = i;
            Due.same("row " + i, i / 20 + 1, () -> x.tag(row % 20, row, row % 16, LAST_HOUR));
        }
        for (int i = 0; i < 11; i++) {
            int thing = i;
            Due.fails("a 25th row", Due.STATE, () -> x.tag(thing, LAST_HOUR, 0, LAST_HOUR));
        }
        Due.same("first, the last call", 480, () -> x.first(19, LAST_HOUR));
    }

    private static void weightsToTheEnd() {
        AuditDraws x = things(1);
        Due.same("the first weight", 0, () -> x.weight(0, 1));
        for (int call = 3; call <= CALLS; call++) {
            int grams = call % 2 == 1 ? 1000000000 : 1;
            Due.same("weight, call " + call, 999999999, () -> x.weight(0, grams));
        }
    }

    private static void refusedCallsToTheEnd() {
        AuditDraws x = new AuditDraws();
        for (int call = 1; call < CALLS; call++) {
            Due.fails("list, call " + call, Due.ARGUMENT, () -> x.list(1));
        }
        Due.same("thing, the last call", 0, () -> x.thing(0, 0));
    }
}
