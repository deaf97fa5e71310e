import java.util.ArrayList;
import java.util.List;

/**
 * Two objects are made alike and one of them is asked something more: if that must change nothing, all that
 * can be asked of the two afterwards is the same.
 */
final class Twins {
    static final int LAST_HOUR = 1000000;

    /** Enough of one stratum that another state of the draw gives another list. */
    private static final int THINGS_ADDED = 8;
    /** Of the things with the least numbers and of the last one every row and weight is asked. */
    private static final int THINGS_ASKED = 6;

    interface Setup {
        void on(AuditDraws x);
    }

    interface Ask {
        Object of(AuditDraws x);
    }

    interface AskAt {
        Object of(AuditDraws x, int value);
    }

    interface Want {
        Object at(int value);
    }

    private Twins() {
    }

    static AuditDraws make(Setup setup) {
        AuditDraws x = new AuditDraws();
        setup.on(x);
        return x;
    }

    /** The call throws that very exception and changes nothing. */
    static void refused(String what, Class<? extends RuntimeException> want, Setup setup, Ask call) {
        leavesNoTrace(what, "throws." + want.getName(), setup, call);
    }

    /** The call answers that and changes nothing. */
    static void leavesNoTrace(String what, Object want, Setup setup, Ask call) {
        AuditDraws asked = make(setup);
        AuditDraws other = make(setup);
        Due.same(what, want, () -> call.of(asked));
        Due.compare(what + ", and nothing changes", trace(other), trace(asked));
    }

    /**
     * A value from low to high is taken, one outside is refused: asked at both ends, one step to each side of
     * them, and far away.
     */
    static void range(String what, int low, int high, Class<? extends RuntimeException> refusal,
            Setup setup, AskAt call, Want want) {
        for (int value : new int[] {low, low + 1, high - 1, high}) {
            if (value >= low && value <= high) {
                AuditDraws x = make(setup);
                Due.same(what + " " + value, want.at(value), () -> call.of(x, value));
            }
        }
        for (int value : new int[] {low - 1, high + 1, Integer.MIN_VALUE, Integer.MAX_VALUE}) {
            refused(what + " " + value, refusal, setup, x -> call.of(x, value));
        }
    }

    /** All that an object can be asked; the last of it changes the object, which is of no more use then. */
    static String trace(AuditDraws x) {
        List<String> all = new ArrayList<>();
        all.add("list " + untilRefused(x::drawn));
        for (int i = 0; i < 4; i++) {
            int state = i;
            all.add("state " + i + " " + untilNone(k -> x.report(state, k)));
        }
        int things = 0;
        for (int i = 0; i < 16; i++) {
            int place = i;
            List<Object> inRoom = untilNone(k -> x.room(place, k));
            things += inRoom.size();
            all.add("room " + i + " " + inRoom);
        }
        for (int stratum = 0; stratum < 6; stratum++) {
            all.add("stratum " + stratum + " " + x.share(stratum, 0) + "/" + x.share(stratum, 1) + " "
                + x.next(stratum));
        }
        for (int thing = 0; thing < things; thing++) {
            if (thing < THINGS_ASKED || thing == things - 1) {
                all.add(traceOfThing(x, thing));
            }
        }
        all.add(traceOfTheDraw(x, things));
        return String.join("; ", all);
    }

    private static String traceOfThing(AuditDraws x, int thing) {
        StringBuilder rows = new StringBuilder("thing " + thing);
        for (int by : new int[] {0, 20, LAST_HOUR}) {
            rows.append(" ").append(x.first(thing, by)).append("@").append(x.seen(thing, by));
        }
        rows.append(" rows ").append(Due.outcome(() -> x.tag(thing, 0, 0, LAST_HOUR)));
        // The greatest weight differs from each other one by another amount.
        return rows.append(" grams ").append(x.weight(thing, 1000000000)).toString();
    }

    private static String traceOfTheDraw(AuditDraws x, int things) {
        StringBuilder draw = new StringBuilder("new things");
        int all = things;
        for (int i = 0; i < THINGS_ADDED; i++) {
            String number = Due.outcome(() -> x.thing(0, 0));
            draw.append(" ").append(number);
            all += number.startsWith("throws.") ? 0 : 1;
        }
        int size = all;
        draw.append(" next list ").append(Due.outcome(() -> x.list(size)));
        return draw.append(" ").append(untilRefused(x::drawn)).toString();
    }

    private interface Row {
        Object at(int k);
    }

    private static List<Object> untilRefused(Row row) {
        return until(row, "throws." + Due.NO_SUCH.getName());
    }

    private static List<Object> untilNone(Row row) {
        return until(row, "-1");
    }

    private static List<Object> until(Row row, String end) {
        List<Object> all = new ArrayList<>();
        for (int i = 0; i <= 64; i++) {
            int k = i;
            String answer = Due.outcome(() -> row.at(k));
            if (answer.equals(end)) {
                return all;
            }
            all.add(answer);
        }
        all.add("without an end");
        return all;
    }
}
