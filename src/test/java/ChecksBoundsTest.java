import java.util.ArrayList;
import java.util.List;

/** The boundary cases of checks, of shares and next shares, and of promises 6 to 9, 16 and 17. */
public final class ChecksBoundsTest {
    private static final String NOT_LISTED = "throws." + Due.STATE.getName();

    public static void main(String[] args) {
        thingsThatAreChecked();
        personsThatCheck();
        samePersonsChangeNothing();
        samePersonsWhoAreNone();
        placesOfChecks();
        oneStepFromTheOwnPlace();
        elsewhereBecomesTheOwnPlace();
        theLatestCheckCounts();
        aThingOffTheListIsNotChecked();
        exceptionsOfChecksInTheirOrder();
        aNewListForgetsTheChecks();
        thingsThatAreGone();
        goneIsNewOnce();
        goneIsNewAgain();
        samePersonsLeaveAThingGone();
        aThingOffTheListIsNotGone();
        strataAndPartsOfShares();
        sharesOfNoneChecked();
        sharesAtTheirEnds();
        sharesThatCannotBeLessened();
        sharesOfSixtyFour();
        strataOfNextShares();
        nextSharesOfNoneChecked();
        nextSharesAtTheirEnds();
        nextSharesAreRoundedUp();
        strataAreApart();
        statesOfReports();
        placesInReports();
        reportsOfTheListAlone();
        reportsOfAllSixtyFour();
        roomsOfThings();
        placesInRooms();
        roomsOfAllSixtyFour();
        Due.end();
    }

    /** Things 0 .. 3 of stratum 1 at places 5 .. 8, all on the list. */
    private static void fourListed(AuditDraws x) {
        for (int i = 0; i < 4; i++) {
            x.thing(1, 5 + i);
        }
        x.seed(2);
        x.list(4);
    }

    /** Likewise; 0 is unchecked, 1 found, 2 elsewhere and 3 gone. */
    private static void oneInEachState(AuditDraws x) {
        fourListed(x);
        x.check(1, 1, 2, 6);
        x.check(2, 1, 2, 9);
        x.gone(3);
    }

    /** Things of stratum 2 at place 0, all on the list. */
    private static AuditDraws listed(int count) {
        AuditDraws x = new AuditDraws();
        for (int i = 0; i < count; i++) {
            x.thing(2, 0);
        }
        x.list(count);
        return x;
    }

    /** Of things on the list the first ones are found, the next ones elsewhere, the next ones gone. */
    private static AuditDraws checked(int count, int found, int elsewhere, int gone) {
        AuditDraws x = listed(count);
        for (int i = 0; i < found; i++) {
            x.check(i, 1, 2, 0);
        }
        for (int i = found; i < found + elsewhere; i++) {
            x.check(i, 1, 2, 1);
        }
        for (int i = found + elsewhere; i < found + elsewhere + gone; i++) {
            x.gone(i);
        }
        return x;
    }

    /** How a thing can be off the latest list; it is thing 0 of stratum 1 at place 5. */
    private static List<Twins.Setup> offTheList() {
        List<Twins.Setup> all = new ArrayList<>();
        all.add(x -> x.thing(1, 5));
        all.add(x -> {
            x.thing(1, 5);
            x.list(0);
        });
        // It was on the list ahead of the latest one, found, elsewhere or gone.
        all.add(x -> {
            x.thing(1, 5);
            x.list(1);
            x.check(0, 1, 2, 5);
            x.list(0);
        });
        all.add(x -> {
            x.thing(1, 5);
            x.list(1);
            x.check(0, 1, 2, 6);
            x.list(0);
        });
        all.add(x -> {
            x.thing(1, 5);
            x.list(1);
            x.gone(0);
            x.list(0);
        });
        // Stratum 0 gives the one thing of the list: of equal rests the lower number.
        all.add(x -> {
            x.thing(1, 5);
            x.thing(0, 5);
            x.list(1);
        });
        return all;
    }

    // Promise 6

    private static void thingsThatAreChecked() {
        Twins.range("check of", 0, 3, Due.NO_SUCH, ChecksBoundsTest::fourListed, (x, t) -> x.check(t, 1, 2, 6),
            t -> t == 1 ? 0 : 1);
        Twins.range("check in all states of", 0, 3, Due.NO_SUCH, ChecksBoundsTest::oneInEachState,
            (x, t) -> x.check(t, 1, 2, 6), t -> t == 1 ? 0 : 1);
        AuditDraws x = listed(64);
        Due.same("check of 63", 0, () -> x.check(63, 1, 2, 0));
        Due.fails("check of 64", Due.NO_SUCH, () -> x.check(64, 1, 2, 0));
    }

    private static void personsThatCheck() {
        Twins.range("checked by a", 0, 9, Due.NO_SUCH, ChecksBoundsTest::oneInEachState,
            (x, a) -> x.check(0, a, 5, 5), a -> 0);
        Twins.range("checked by b", 0, 9, Due.NO_SUCH, ChecksBoundsTest::oneInEachState,
            (x, b) -> x.check(0, 5, b, 5), b -> 0);
        Twins.range("checked elsewhere by a", 0, 9, Due.NO_SUCH, ChecksBoundsTest::oneInEachState,
            (x, a) -> x.check(0, a, 5, 6), a -> 1);
        Twins.range("checked elsewhere by b", 0, 9, Due.NO_SUCH, ChecksBoundsTest::oneInEachState,
            (x, b) -> x.check(0, 5, b, 6), b -> 1);
    }

    private static void samePersonsChangeNothing() {
        for (int i = 0; i < 10; i++) {
            int person = i;
            for (int j = 0; j < 4; j++) {
                int thing = j;
                Twins.leavesNoTrace(i + " twice, thing " + j, 2, ChecksBoundsTest::oneInEachState,
                    x -> x.check(thing, person, person, 5));
                Twins.leavesNoTrace(i + " twice, thing " + j + " at 15", 2, ChecksBoundsTest::oneInEachState,
                    x -> x.check(thing, person, person, 15));
            }
            for (int other : new int[] {i - 1, i + 1}) {
                if (other >= 0 && other <= 9) {
                    AuditDraws x = Twins.make(ChecksBoundsTest::fourListed);
                    Due.same(i + " and " + other, 0, () -> x.check(0, person, other, 5));
                }
            }
        }
    }

    private static void samePersonsWhoAreNone() {
        for (int person : new int[] {-1, 10, Integer.MIN_VALUE, Integer.MAX_VALUE}) {
            Twins.refused(person + " twice", Due.NO_SUCH, ChecksBoundsTest::oneInEachState,
                x -> x.check(0, person, person, 5));
        }
        for (int place : new int[] {-1, 16}) {
            Twins.refused("the same persons at " + place, Due.NO_SUCH, ChecksBoundsTest::oneInEachState,
                x -> x.check(0, 3, 3, place));
        }
        Twins.refused("the same persons, no thing", Due.NO_SUCH, ChecksBoundsTest::oneInEachState,
            x -> x.check(4, 3, 3, 5));
    }

    private static void placesOfChecks() {
        Twins.range("checked at", 0, 15, Due.NO_SUCH, ChecksBoundsTest::oneInEachState,
            (x, p) -> x.check(0, 1, 2, p), p -> 1);
        Twins.Setup atZero = x -> {
            x.thing(0, 0);
            x.list(1);
        };
        Twins.range("from 0 checked at", 0, 15, Due.NO_SUCH, atZero, (x, p) -> x.check(0, 1, 2, p),
            p -> p == 0 ? 0 : 1);
        Twins.Setup atFifteen = x -> {
            x.thing(0, 15);
            x.list(1);
        };
        Twins.range("from 15 checked at", 0, 15, Due.NO_SUCH, atFifteen, (x, p) -> x.check(0, 1, 2, p),
            p -> p == 15 ? 0 : 1);
    }

    private static void oneStepFromTheOwnPlace() {
        for (int i = 0; i < 16; i++) {
            int own = i;
            for (int told : new int[] {i - 1, i, i + 1}) {
                if (told >= 0 && told <= 15) {
                    AuditDraws x = new AuditDraws();
                    x.thing(0, own);
                    x.list(1);
                    Due.same("from " + i + " at " + told, told == i ? 0 : 1, () -> x.check(0, 1, 2, told));
                    Due.same("its place is " + told, 0, () -> x.room(told, 0));
                    Due.same("its state", 0, () -> x.report(told == own ? 1 : 2, 0));
                }
            }
        }
    }

    private static void elsewhereBecomesTheOwnPlace() {
        AuditDraws x = Twins.make(ChecksBoundsTest::fourListed);
        Due.same("at 15", 1, () -> x.check(0, 1, 2, 15));
        Due.same("not at its old place", AuditDraws.NONE, () -> x.room(5, 0));
        Due.same("but there", 0, () -> x.room(15, 0));
        Due.same("at 15 again", 0, () -> x.check(0, 1, 2, 15));
        Due.same("at its old place", 1, () -> x.check(0, 1, 2, 5));
        Due.same("at 15 once more", 1, () -> x.check(0, 1, 2, 15));
        x.list(4);
        Due.same("a new list keeps the place", 0, () -> x.check(0, 1, 2, 15));
    }

    private static void inState(String what, AuditDraws x, int want) {
        for (int i = 0; i < 4; i++) {
            int state = i;
            Due.same(what + ", state " + i, i == want ? 0 : AuditDraws.NONE, () -> x.report(state, 0));
        }
    }

    private static void theLatestCheckCounts() {
        AuditDraws x = listed(1);
        inState("at first", x, 0);
        x.check(0, 1, 2, 0);
        inState("found", x, 1);
        x.check(0, 1, 2, 1);
        inState("elsewhere behind found", x, 2);
        x.check(0, 1, 2, 1);
        inState("found behind elsewhere", x, 1);
        x.gone(0);
        inState("gone behind found", x, 3);
        x.check(0, 1, 2, 1);
        inState("found behind gone", x, 1);
        x.gone(0);
        x.check(0, 1, 2, 4);
        inState("elsewhere behind gone", x, 2);
        x.gone(0);
        inState("gone behind elsewhere", x, 3);
        x.list(1);
        inState("unchecked behind gone", x, 0);
    }

    private static void aThingOffTheListIsNotChecked() {
        for (Twins.Setup setup : offTheList()) {
            Twins.refused("off the list, at 5", Due.STATE, setup, x -> x.check(0, 1, 2, 5));
            Twins.refused("off the list, at 6", Due.STATE, setup, x -> x.check(0, 1, 2, 6));
        }
        AuditDraws x = Twins.make(ChecksBoundsTest::fourListed);
        x.thing(1, 5);
        Due.same("the last one on the list", 0, () -> x.check(3, 1, 2, 8));
        Due.fails("a thing made behind the list", Due.STATE, () -> x.check(4, 1, 2, 5));
        x.list(5);
        Due.same("on the next list", 0, () -> x.check(4, 1, 2, 5));
    }

    private static void exceptionsOfChecksInTheirOrder() {
        for (Twins.Setup setup : offTheList()) {
            Twins.refused("no person a", Due.NO_SUCH, setup, x -> x.check(0, -1, 2, 5));
            Twins.refused("no person a", Due.NO_SUCH, setup, x -> x.check(0, 10, 2, 5));
            Twins.refused("no person b", Due.NO_SUCH, setup, x -> x.check(0, 1, -1, 5));
            Twins.refused("no person b", Due.NO_SUCH, setup, x -> x.check(0, 1, 10, 5));
            Twins.refused("no place", Due.NO_SUCH, setup, x -> x.check(0, 1, 2, -1));
            Twins.refused("no place", Due.NO_SUCH, setup, x -> x.check(0, 1, 2, 16));
            Twins.refused("the same persons", Due.STATE, setup, x -> x.check(0, 3, 3, 5));
        }
    }

    private static void aNewListForgetsTheChecks() {
        AuditDraws x = Twins.make(ChecksBoundsTest::oneInEachState);
        x.list(4);
        for (int i = 0; i < 4; i++) {
            int k = i;
            Due.same("unchecked " + i, k, () -> x.report(0, k));
        }
        for (int i = 1; i < 4; i++) {
            int state = i;
            Due.same("none in state " + i, AuditDraws.NONE, () -> x.report(state, 0));
        }
        Due.same("share above", 0, () -> x.share(1, 0));
        Due.same("share below", 1, () -> x.share(1, 1));
        Due.same("next share", 100, () -> x.next(1));
    }

    // Promise 7

    private static void thingsThatAreGone() {
        Twins.range("gone", 0, 3, Due.NO_SUCH, ChecksBoundsTest::fourListed, AuditDraws::gone, t -> true);
        Twins.range("gone in all states", 0, 3, Due.NO_SUCH, ChecksBoundsTest::oneInEachState, AuditDraws::gone,
            t -> t != 3);
        AuditDraws x = listed(64);
        Due.same("gone of 63", true, () -> x.gone(63));
        Due.fails("gone of 64", Due.NO_SUCH, () -> x.gone(64));
    }

    private static void goneIsNewOnce() {
        AuditDraws x = Twins.make(ChecksBoundsTest::oneInEachState);
        for (int i = 0; i < 3; i++) {
            int thing = i;
            Due.same("gone " + i, true, () -> x.gone(thing));
            Due.same("said already of " + i, false, () -> x.gone(thing));
            Due.same("and again of " + i, false, () -> x.gone(thing));
        }
        Twins.leavesNoTrace("said already", false, ChecksBoundsTest::oneInEachState, y -> y.gone(3));
    }

    private static void goneIsNewAgain() {
        AuditDraws x = listed(1);
        Due.same("gone", true, () -> x.gone(0));
        x.check(0, 1, 2, 0);
        Due.same("behind a check", true, () -> x.gone(0));
        x.list(1);
        Due.same("on a new list", true, () -> x.gone(0));
        Due.same("said already of it", false, () -> x.gone(0));
        Due.same("it keeps its place", 0, () -> x.room(0, 0));
    }

    private static void samePersonsLeaveAThingGone() {
        AuditDraws x = listed(1);
        x.gone(0);
        Due.same("the same persons", 2, () -> x.check(0, 4, 4, 0));
        Due.same("still gone", false, () -> x.gone(0));
    }

    private static void aThingOffTheListIsNotGone() {
        for (Twins.Setup setup : offTheList()) {
            Twins.refused("off the list", Due.STATE, setup, x -> x.gone(0));
        }
        AuditDraws x = Twins.make(ChecksBoundsTest::fourListed);
        x.thing(1, 5);
        Due.same("the last one on the list", true, () -> x.gone(3));
        Due.fails("a thing made behind the list", Due.STATE, () -> x.gone(4));
        Due.fails("no such thing", Due.NO_SUCH, () -> x.gone(5));
    }

    // Promise 8

    private static void fraction(String what, AuditDraws x, int stratum, int above, int below) {
        Due.same(what + ", above", above, () -> x.share(stratum, 0));
        Due.same(what + ", below", below, () -> x.share(stratum, 1));
    }

    private static void strataAndPartsOfShares() {
        Twins.Setup setup = ChecksBoundsTest::oneInEachState;
        Twins.range("above, stratum", 0, 5, Due.NO_SUCH, setup, (x, s) -> x.share(s, 0), s -> s == 1 ? 1 : 0);
        Twins.range("below, stratum", 0, 5, Due.NO_SUCH, setup, (x, s) -> x.share(s, 1), s -> s == 1 ? 3 : 1);
        Twins.range("part", 0, 1, Due.NO_SUCH, setup, (x, p) -> x.share(1, p), p -> p == 0 ? 1 : 3);
        Twins.range("part of none checked", 0, 1, Due.NO_SUCH, setup, (x, p) -> x.share(2, p), p -> p);
        Twins.refused("neither stratum nor part", Due.NO_SUCH, setup, x -> x.share(6, 2));
        Twins.leavesNoTrace("a share", 3, setup, x -> x.share(1, 1));
    }

    private static void sharesOfNoneChecked() {
        for (Twins.Setup setup : offTheList()) {
            fraction("off the list", Twins.make(setup), 1, 0, 1);
        }
        AuditDraws x = listed(2);
        fraction("unchecked", x, 2, 0, 1);
        x.check(0, 6, 6, 0);
        fraction("the same persons", x, 2, 0, 1);
        x.check(0, 6, 7, 0);
        fraction("one found", x, 2, 1, 1);
        x.list(2);
        fraction("a new list", x, 2, 0, 1);
    }

    private static void sharesAtTheirEnds() {
        fraction("one found", checked(3, 1, 0, 0), 2, 1, 1);
        fraction("one elsewhere", checked(3, 0, 1, 0), 2, 0, 1);
        fraction("one gone", checked(3, 0, 0, 1), 2, 0, 1);
        fraction("all found", checked(3, 3, 0, 0), 2, 1, 1);
        fraction("all elsewhere", checked(3, 0, 3, 0), 2, 0, 1);
        fraction("all gone", checked(3, 0, 0, 3), 2, 0, 1);
        fraction("one of each", checked(4, 1, 1, 1), 2, 1, 3);
        fraction("one found and one not", checked(3, 1, 0, 1), 2, 1, 2);
    }

    private static void sharesThatCannotBeLessened() {
        fraction("2 of 4", checked(9, 2, 1, 1), 2, 1, 2);
        fraction("3 of 4", checked(9, 3, 1, 0), 2, 3, 4);
        fraction("4 of 6", checked(9, 4, 1, 1), 2, 2, 3);
        fraction("5 of 6", checked(9, 5, 0, 1), 2, 5, 6);
        fraction("3 of 9", checked(9, 3, 3, 3), 2, 1, 3);
        fraction("6 of 9", checked(9, 6, 0, 3), 2, 2, 3);
        fraction("4 of 9", checked(9, 4, 3, 2), 2, 4, 9);
        fraction("8 of 9", checked(9, 8, 1, 0), 2, 8, 9);
    }

    private static void sharesOfSixtyFour() {
        fraction("0 of 64", checked(64, 0, 32, 32), 2, 0, 1);
        fraction("1 of 64", checked(64, 1, 62, 1), 2, 1, 64);
        fraction("31 of 64", checked(64, 31, 33, 0), 2, 31, 64);
        fraction("32 of 64", checked(64, 32, 0, 32), 2, 1, 2);
        fraction("33 of 64", checked(64, 33, 31, 0), 2, 33, 64);
        fraction("48 of 64", checked(64, 48, 8, 8), 2, 3, 4);
        fraction("62 of 64", checked(64, 62, 1, 1), 2, 31, 32);
        fraction("63 of 64", checked(64, 63, 0, 1), 2, 63, 64);
        fraction("64 of 64", checked(64, 64, 0, 0), 2, 1, 1);
        fraction("62 of 63", checked(64, 62, 0, 1), 2, 62, 63);
        fraction("60 of 63", checked(64, 60, 3, 0), 2, 20, 21);
    }

    // Promise 9

    private static void strataOfNextShares() {
        // Of three checked ones two are missed: 633 and a third, rounded up.
        Twins.range("next share of", 0, 5, Due.NO_SUCH, ChecksBoundsTest::oneInEachState, AuditDraws::next,
            s -> s == 1 ? 684 : 100);
        Twins.leavesNoTrace("a next share", 684, ChecksBoundsTest::oneInEachState, x -> x.next(1));
    }

    private static void nextSharesOfNoneChecked() {
        for (Twins.Setup setup : offTheList()) {
            Due.same("off the list", 100, () -> Twins.make(setup).next(1));
        }
        AuditDraws x = listed(2);
        Due.same("unchecked", 100, () -> x.next(2));
        x.check(0, 6, 6, 1);
        Due.same("the same persons", 100, () -> x.next(2));
        x.check(0, 6, 7, 0);
        Due.same("one checked", 50, () -> x.next(2));
        x.list(2);
        Due.same("a new list", 100, () -> x.next(2));
    }

    private static void next(int want, int count, int found, int elsewhere, int gone) {
        Due.same("next share, " + elsewhere + " elsewhere and " + gone + " gone behind " + found + " found", want,
            () -> checked(count, found, elsewhere, gone).next(2));
    }

    private static void nextSharesAtTheirEnds() {
        next(50, 64, 1, 0, 0);
        next(50, 64, 64, 0, 0);
        next(1000, 64, 0, 1, 0);
        next(1000, 64, 0, 0, 1);
        next(1000, 64, 0, 64, 0);
        next(1000, 64, 0, 0, 64);
        next(1000, 64, 0, 32, 32);
        // 950 / 64 is 14 and 54 of 64; 63 times that is 935 and 10 of 64.
        next(65, 64, 63, 1, 0);
        next(65, 64, 63, 0, 1);
        next(986, 64, 1, 63, 0);
        next(986, 64, 1, 0, 63);
    }

    private static void nextSharesAreRoundedUp() {
        // 950 / 18 is 52 and 14 of 18, 950 / 19 is 50 and 950 / 20 is 47 and a half.
        next(103, 20, 17, 1, 0);
        next(100, 20, 18, 0, 1);
        next(98, 20, 19, 1, 0);
        // 950 / 13 is 73 and 1 of 13; twice that is 146 and 2 of 13.
        next(124, 20, 12, 0, 1);
        next(197, 20, 11, 1, 1);
        // 950 / 3 is 316 and 2 of 3, twice that is 633 and 1 of 3.
        next(367, 20, 2, 1, 0);
        next(684, 20, 1, 1, 1);
        next(525, 20, 1, 0, 1);
        next(525, 20, 2, 1, 1);
        // 950 / 63 is 15 and 5 of 63; 62 times that is 934 and 58 of 63.
        next(66, 64, 62, 1, 0);
        next(985, 64, 1, 31, 31);
    }

    private static void strataAreApart() {
        AuditDraws x = new AuditDraws();
        for (int i = 0; i < 12; i++) {
            x.thing(i / 2, 0);
        }
        x.list(12);
        x.check(0, 1, 2, 0);
        x.gone(11);
        int[] next = {50, 100, 100, 100, 100, 1000};
        for (int i = 0; i < 6; i++) {
            int stratum = i;
            Due.same("next share of " + i, next[i], () -> x.next(stratum));
            fraction("share of " + i, x, i, i == 0 ? 1 : 0, 1);
        }
    }

    // Promise 16

    private static void statesOfReports() {
        Twins.Setup setup = ChecksBoundsTest::oneInEachState;
        Twins.range("the first in state", 0, 3, Due.NO_SUCH, setup, (x, s) -> x.report(s, 0), s -> s);
        Twins.range("the second in state", 0, 3, Due.NO_SUCH, setup, (x, s) -> x.report(s, 1),
            s -> AuditDraws.NONE);
        Twins.refused("neither state nor k", Due.NO_SUCH, setup, x -> x.report(4, -1));
        Twins.leavesNoTrace("a report", 2, setup, x -> x.report(2, 0));
    }

    private static void placesInReports() {
        for (int i = 0; i < 4; i++) {
            int state = i;
            // Things 1, 3 and 5 are in the state; they were put into it from the last to the first.
            Twins.Setup three = x -> {
                for (int thing = 0; thing < 7; thing++) {
                    x.thing(thing % 6, 0);
                }
                x.list(7);
                for (int thing = 6; thing >= 0; thing--) {
                    bring(x, thing, thing % 2 == 1 ? state : (state + 1) % 4);
                }
            };
            int[] want = {1, 3, 5, AuditDraws.NONE, AuditDraws.NONE};
            for (int k = 0; k < want.length; k++) {
                int at = k;
                Due.same("report(" + i + ", " + k + ")", want[k], () -> Twins.make(three).report(state, at));
            }
            Due.same("far behind", AuditDraws.NONE, () -> Twins.make(three).report(state, Integer.MAX_VALUE));
            Twins.refused("report(" + i + ", -1)", Due.NO_SUCH, three, x -> x.report(state, -1));
            Twins.refused("report(" + i + ", least)", Due.NO_SUCH, three,
                x -> x.report(state, Integer.MIN_VALUE));
            Twins.refused("of nothing, -1", Due.NO_SUCH, x -> { }, x -> x.report(state, -1));
            Due.same("of nothing, 0", AuditDraws.NONE, () -> new AuditDraws().report(state, 0));
        }
    }

    /** Brings a thing at place 0 that is unchecked into a state. */
    private static void bring(AuditDraws x, int thing, int state) {
        if (state == 1) {
            x.check(thing, 1, 2, 0);
        }
        if (state == 2) {
            x.check(thing, 1, 2, 1);
        }
        if (state == 3) {
            x.gone(thing);
        }
    }

    private static void reportsOfTheListAlone() {
        for (Twins.Setup setup : offTheList()) {
            AuditDraws x = Twins.make(setup);
            String listed = Due.outcome(() -> x.drawn(0));
            for (int i = 0; i < 4; i++) {
                int state = i;
                String want = i == 0 && listed.equals("1") ? "1" : "-1";
                Due.same("state " + i, want, () -> x.report(state, 0));
                Due.same("state " + i + ", the second", AuditDraws.NONE, () -> x.report(state, 1));
            }
            Due.same("thing 0 is off the list", NOT_LISTED, () -> x.gone(0));
        }
    }

    private static void reportsOfAllSixtyFour() {
        AuditDraws x = listed(64);
        for (int i = 0; i < 64; i++) {
            int k = i;
            Due.same("unchecked " + i, k, () -> x.report(0, k));
        }
        Due.same("unchecked 64", AuditDraws.NONE, () -> x.report(0, 64));
        Due.same("found 0", AuditDraws.NONE, () -> x.report(1, 0));
        x.check(63, 1, 2, 0);
        Due.same("found 0 now", 63, () -> x.report(1, 0));
        Due.same("unchecked 62", 62, () -> x.report(0, 62));
        Due.same("unchecked 63", AuditDraws.NONE, () -> x.report(0, 63));
    }

    // Promise 17

    private static void roomsOfThings() {
        // Things 0, 1, 2 and 3 are at 5, 6, 9 and 8: 2 was found elsewhere.
        int[] first = {-1, -1, -1, -1, -1, 0, 1, -1, 3, 2, -1, -1, -1, -1, -1, -1};
        Twins.range("room", 0, 15, Due.NO_SUCH, ChecksBoundsTest::oneInEachState, (x, p) -> x.room(p, 0),
            p -> first[p]);
        AuditDraws x = Twins.make(ChecksBoundsTest::oneInEachState);
        for (int i = 0; i < 16; i++) {
            int place = i;
            Due.same("room " + i, first[i], () -> x.room(place, 0));
            Due.same("room " + i + ", the second", AuditDraws.NONE, () -> x.room(place, 1));
        }
        Twins.Setup ends = y -> {
            y.thing(0, 15);
            y.thing(0, 0);
        };
        Twins.range("room at the ends", 0, 15, Due.NO_SUCH, ends, (y, p) -> y.room(p, 0),
            p -> p == 0 ? 1 : p == 15 ? 0 : AuditDraws.NONE);
        Twins.refused("neither room nor k", Due.NO_SUCH, ends, y -> y.room(16, -1));
        Twins.leavesNoTrace("a room", 2, ChecksBoundsTest::oneInEachState, y -> y.room(9, 0));
    }

    private static void placesInRooms() {
        // Things off the latest list are told too, and what is gone stays where it was.
        Twins.Setup three = x -> {
            for (int place : new int[] {3, 4, 3, 2, 4}) {
                x.thing(0, place);
            }
            x.list(5);
            x.gone(2);
            x.check(1, 1, 2, 3);
            x.list(0);
        };
        int[] want = {0, 1, 2, AuditDraws.NONE, AuditDraws.NONE};
        for (int k = 0; k < want.length; k++) {
            int at = k;
            Due.same("room(3, " + k + ")", want[k], () -> Twins.make(three).room(3, at));
        }
        Due.same("room(4, 0)", 4, () -> Twins.make(three).room(4, 0));
        Due.same("room(4, 1)", AuditDraws.NONE, () -> Twins.make(three).room(4, 1));
        Due.same("far behind", AuditDraws.NONE, () -> Twins.make(three).room(3, Integer.MAX_VALUE));
        Twins.refused("room(3, -1)", Due.NO_SUCH, three, x -> x.room(3, -1));
        Twins.refused("room(3, least)", Due.NO_SUCH, three, x -> x.room(3, Integer.MIN_VALUE));
        Twins.refused("of nothing, -1", Due.NO_SUCH, x -> { }, x -> x.room(0, -1));
        Due.same("of nothing, 0", AuditDraws.NONE, () -> new AuditDraws().room(0, 0));
    }

    private static void roomsOfAllSixtyFour() {
        AuditDraws x = listed(64);
        for (int i = 0; i < 64; i++) {
            int k = i;
            Due.same("room(0, " + i + ")", k, () -> x.room(0, k));
        }
        Due.same("room(0, 64)", AuditDraws.NONE, () -> x.room(0, 64));
        x.check(63, 1, 2, 15);
        Due.same("room(0, 63)", AuditDraws.NONE, () -> x.room(0, 63));
        Due.same("room(0, 62)", 62, () -> x.room(0, 62));
        Due.same("room(15, 0)", 63, () -> x.room(15, 0));
    }
}
