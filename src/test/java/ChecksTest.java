/** Promises 6 to 9, 16 and 17: check, gone, share, next, report, room. */
public final class ChecksTest {
    public static void main(String[] args) {
        checksAnswer();
        checksMoveThings();
        wrongChecks();
        stateComesAheadOfThePersons();
        goneAnswers();
        wrongGones();
        sharesAreFractions();
        sharesAreOfTheStratumOnTheList();
        nextSharesAreRoundedUp();
        wrongStrata();
        reportsGoByNumbers();
        aNewListForgets();
        roomsGoByNumbers();
        Due.end();
    }

    /** Things 0 .. count - 1 of a stratum at place 0, all on the list. */
    private static AuditDraws listed(int count, int stratum) {
        AuditDraws x = new AuditDraws();
        for (int i = 0; i < count; i++) {
            x.thing(stratum, 0);
        }
        x.seed(9);
        x.list(count);
        return x;
    }

    private static void checksAnswer() {
        AuditDraws x = listed(2, 0);
        Due.same("the same persons", 2, () -> x.check(0, 3, 3, 0));
        Due.same("still unchecked", 0, () -> x.report(0, 0));
        Due.same("the same persons, elsewhere", 2, () -> x.check(0, 3, 3, 5));
        Due.same("not moved", 0, () -> x.room(0, 0));
        Due.same("in place", 0, () -> x.check(0, 0, 9, 0));
        Due.same("found", 0, () -> x.report(1, 0));
        Due.same("elsewhere", 1, () -> x.check(1, 9, 0, 15));
        Due.same("reported elsewhere", 1, () -> x.report(2, 0));
        Due.same("the same persons change no state", 2, () -> x.check(1, 4, 4, 15));
        Due.same("still elsewhere", 1, () -> x.report(2, 0));
    }

    private static void checksMoveThings() {
        AuditDraws x = listed(1, 0);
        Due.same("elsewhere", 1, () -> x.check(0, 1, 2, 7));
        Due.same("its room", 0, () -> x.room(7, 0));
        Due.same("its old room", -1, () -> x.room(0, 0));
        Due.same("found there then", 0, () -> x.check(0, 1, 2, 7));
        Due.same("found is the latest", 0, () -> x.report(1, 0));
        Due.same("and no longer elsewhere", -1, () -> x.report(2, 0));
        Due.same("back again is elsewhere", 1, () -> x.check(0, 1, 2, 0));
        Due.same("elsewhere is the latest", 0, () -> x.report(2, 0));
    }

    private static void wrongChecks() {
        AuditDraws x = listed(2, 0);
        int[][] wrong = {
            {-1, 1, 2, 5}, {2, 1, 2, 5}, {0, -1, 2, 5}, {0, 10, 2, 5}, {0, 1, -1, 5}, {0, 1, 10, 5},
            {0, 1, 2, -1}, {0, 1, 2, 16}, {0, 10, 10, 5}, {0, 1, 1, 16}, {Integer.MIN_VALUE, 1, 2, 5},
            {Integer.MAX_VALUE, 1, 2, 5},
        };
        for (int[] w : wrong) {
            Due.fails("check" + java.util.Arrays.toString(w), Due.NO_SUCH, () -> x.check(w[0], w[1], w[2], w[3]));
        }
        Due.same("0 is unchecked", 0, () -> x.report(0, 0));
        Due.same("1 is unchecked", 1, () -> x.report(0, 1));
        Due.same("0 is where it was", 0, () -> x.room(0, 0));
    }

    private static void stateComesAheadOfThePersons() {
        AuditDraws x = listed(1, 0);
        x.thing(0, 4);
        Due.fails("not on the list", Due.STATE, () -> x.check(1, 1, 2, 5));
        Due.fails("not on the list, the same persons", Due.STATE, () -> x.check(1, 1, 1, 5));
        Due.fails("no place comes first", Due.NO_SUCH, () -> x.check(1, 1, 2, 16));
        Due.fails("no person comes first", Due.NO_SUCH, () -> x.check(1, 1, 10, 5));
        Due.same("not moved", 1, () -> x.room(4, 0));
        Due.same("not checked", 50, () -> {
            x.check(0, 1, 2, 0);
            return x.next(0);
        });
    }

    private static void goneAnswers() {
        AuditDraws x = listed(2, 0);
        Due.same("gone", true, () -> x.gone(1));
        Due.same("gone already", false, () -> x.gone(1));
        Due.same("reported", 1, () -> x.report(3, 0));
        Due.same("it keeps its place", 1, () -> x.room(0, 1));
        Due.same("found after all", 0, () -> x.check(1, 1, 2, 0));
        Due.same("gone no longer", -1, () -> x.report(3, 0));
        Due.same("gone again", true, () -> x.gone(1));
        x.list(2);
        Due.same("a new list forgets it", true, () -> x.gone(1));
    }

    private static void wrongGones() {
        AuditDraws x = listed(1, 0);
        x.thing(0, 0);
        Due.fails("gone(-1)", Due.NO_SUCH, () -> x.gone(-1));
        Due.fails("gone(2)", Due.NO_SUCH, () -> x.gone(2));
        Due.fails("gone(greatest)", Due.NO_SUCH, () -> x.gone(Integer.MAX_VALUE));
        Due.fails("gone(1)", Due.STATE, () -> x.gone(1));
        Due.same("nothing is gone", -1, () -> x.report(3, 0));
        Due.same("nothing is checked", 100, () -> x.next(0));
    }

    private static void fraction(AuditDraws x, int stratum, int above, int below) {
        Due.same("share above", above, () -> x.share(stratum, 0));
        Due.same("share below", below, () -> x.share(stratum, 1));
    }

    private static void sharesAreFractions() {
        AuditDraws x = listed(12, 4);
        fraction(x, 4, 0, 1);
        x.gone(0);
        fraction(x, 4, 0, 1);
        x.check(1, 1, 2, 3);
        fraction(x, 4, 0, 1);
        x.check(2, 1, 2, 0);
        fraction(x, 4, 1, 3);
        x.check(3, 1, 2, 0);
        fraction(x, 4, 1, 2);
        x.check(4, 1, 2, 0);
        fraction(x, 4, 3, 5);
        x.check(5, 1, 2, 0);
        fraction(x, 4, 2, 3);
        x.check(6, 2, 2, 0);
        fraction(x, 4, 2, 3);
        x.check(0, 1, 2, 0);
        fraction(x, 4, 5, 6);
        x.check(1, 1, 2, 3);
        fraction(x, 4, 1, 1);
        x.gone(7);
        x.gone(8);
        x.gone(9);
        fraction(x, 4, 2, 3);
    }

    private static void sharesAreOfTheStratumOnTheList() {
        AuditDraws x = new AuditDraws();
        for (int i = 0; i < 6; i++) {
            x.thing(i, i);
        }
        x.list(6);
        x.check(2, 1, 2, 2);
        x.gone(3);
        fraction(x, 1, 0, 1);
        fraction(x, 2, 1, 1);
        fraction(x, 3, 0, 1);
        int[] want = {100, 100, 50, 1000, 100, 100};
        for (int i = 0; i < 6; i++) {
            int stratum = i;
            Due.same("next of " + i, want[i], () -> x.next(stratum));
        }
    }

    private static void nextSharesAreRoundedUp() {
        AuditDraws x = listed(7, 5);
        Due.same("unchecked", 100, () -> x.next(5));
        x.check(0, 1, 2, 0);
        Due.same("0 of 1", 50, () -> x.next(5));
        x.check(1, 1, 2, 1);
        Due.same("1 of 2", 525, () -> x.next(5));
        x.check(2, 1, 2, 0);
        Due.same("1 of 3: 316 and 2 thirds", 367, () -> x.next(5));
        x.gone(3);
        Due.same("2 of 4", 525, () -> x.next(5));
        x.check(4, 1, 2, 0);
        Due.same("2 of 5", 430, () -> x.next(5));
        x.check(5, 1, 2, 0);
        x.check(6, 1, 2, 0);
        Due.same("2 of 7: 271 and 3 sevenths", 322, () -> x.next(5));
        for (int i = 0; i < 7; i++) {
            x.gone(i);
        }
        Due.same("7 of 7", 1000, () -> x.next(5));
    }

    private static void wrongStrata() {
        AuditDraws x = listed(1, 0);
        for (int wrong : new int[] {-1, 6, Integer.MIN_VALUE, Integer.MAX_VALUE}) {
            Due.fails("share of stratum " + wrong, Due.NO_SUCH, () -> x.share(wrong, 0));
            Due.fails("next of stratum " + wrong, Due.NO_SUCH, () -> x.next(wrong));
        }
        for (int wrong : new int[] {-1, 2, Integer.MIN_VALUE, Integer.MAX_VALUE}) {
            Due.fails("part " + wrong, Due.NO_SUCH, () -> x.share(0, wrong));
        }
        Due.same("stratum 5 is one", 100, () -> x.next(5));
    }

    private static void reportsGoByNumbers() {
        AuditDraws x = listed(8, 1);
        x.check(6, 1, 2, 0);
        x.check(2, 1, 2, 0);
        x.check(5, 1, 2, 8);
        x.check(1, 1, 2, 9);
        x.gone(7);
        x.gone(0);
        int[][] want = {{3, 4, -1}, {2, 6, -1}, {1, 5, -1}, {0, 7, -1}};
        for (int i = 0; i < 4; i++) {
            for (int j = 0; j < 3; j++) {
                int state = i;
                int k = j;
                Due.same("report(" + i + ", " + j + ")", want[i][j], () -> x.report(state, k));
            }
            int state = i;
            Due.same("far behind", -1, () -> x.report(state, Integer.MAX_VALUE));
            Due.fails("k is below 0", Due.NO_SUCH, () -> x.report(state, -1));
        }
        for (int wrong : new int[] {-1, 4, Integer.MIN_VALUE, Integer.MAX_VALUE}) {
            Due.fails("state " + wrong, Due.NO_SUCH, () -> x.report(wrong, 0));
        }
    }

    private static void aNewListForgets() {
        AuditDraws x = listed(4, 1);
        x.check(0, 1, 2, 0);
        x.check(1, 1, 2, 5);
        x.gone(2);
        x.list(4);
        for (int i = 0; i < 4; i++) {
            int k = i;
            Due.same("all are unchecked", k, () -> x.report(0, k));
        }
        Due.same("a place is kept", 1, () -> x.room(5, 0));
        fraction(x, 1, 0, 1);
        Due.same("next", 100, () -> x.next(1));
        x.list(0);
        for (int i = 0; i < 4; i++) {
            int state = i;
            Due.same("none is on the list", -1, () -> x.report(state, 0));
        }
    }

    private static void roomsGoByNumbers() {
        AuditDraws x = new AuditDraws();
        int[] places = {3, 0, 3, 15, 3};
        for (int place : places) {
            x.thing(0, place);
        }
        int[] want = {0, 2, 4, -1};
        for (int i = 0; i < 4; i++) {
            int k = i;
            Due.same("room(3, " + i + ")", want[i], () -> x.room(3, k));
        }
        Due.same("room(0, 0)", 1, () -> x.room(0, 0));
        Due.same("room(15, 0)", 3, () -> x.room(15, 0));
        Due.same("room(15, greatest)", -1, () -> x.room(15, Integer.MAX_VALUE));
        Due.fails("room(3, -1)", Due.NO_SUCH, () -> x.room(3, -1));
        for (int wrong : new int[] {-1, 16, Integer.MIN_VALUE, Integer.MAX_VALUE}) {
            Due.fails("room " + wrong, Due.NO_SUCH, () -> x.room(wrong, 0));
        }
        x.tag(1, 5, 3, 6);
        Due.same("a tag moves nothing", -1, () -> x.room(3, 3));
        x.list(5);
        x.check(1, 1, 2, 3);
        Due.same("a check does", 1, () -> x.room(3, 1));
    }
}
