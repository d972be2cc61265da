/** The fourth step of a minute: the cranes, their ORDERS and the rail (promises 6, 8, 10). */
public final class RailTest {
    public static void main(String[] args) {
        noOrdersNothing();
        aPlaceAMinute();
        bothEnds();
        thereItIsDoneAtOnce();
        theNextOneComesThen();
        stepEndsItsMinute();
        waitEndsItsMinute();
        doneEndsItsMinute();
        waitsForTheOther();
        waitsWithEightOrders();
        theOtherMayStandStill();
        neverPassesTheOther();
        craneZeroGoesFirst();
        besideTheOther();
        ladleGoesWithIt();
        Check.end();
    }

    /** "the first ORDER of each (none: nothing)": it does not wait. */
    private static void noOrdersNothing() {
        HotAisle x = new HotAisle();
        Check.same("minutes(9)", x.minutes(9), 0);
        for (int crane = 0; crane < 2; crane++) {
            Check.same("place of crane " + crane, x.crane(crane, 0), crane == 0 ? 3 : 11);
            Check.same("waits of crane " + crane, x.crane(crane, 4), 0);
        }
        Check.same("count(6)", x.count(6), 0);
    }

    /** "else it goes one PLACE, if the other CRANE is not there": to and fro. */
    private static void aPlaceAMinute() {
        HotAisle x = new HotAisle();
        Rig.give(x, 0, "6");
        Rig.give(x, 1, "9");
        for (int i = 1; i <= 2; i++) {
            Check.same("minutes(1)", x.minutes(1), 0);
            Check.same("crane(0, 0)", x.crane(0, 0), 3 + i);
            Check.same("crane(1, 0)", x.crane(1, 0), 11 - i);
        }
        Check.same("minutes(2)", x.minutes(2), 2);
        Check.same("crane(0, 0)", x.crane(0, 0), 6);
        Check.same("crane(1, 0)", x.crane(1, 0), 9);
    }

    /** "THE RAIL has PLACES 0 to 15". */
    private static void bothEnds() {
        HotAisle x = new HotAisle();
        Check.same("minutes to 0", Rig.done(x, 0, "0"), 4);
        Check.same("crane(0, 0)", x.crane(0, 0), 0);
        Check.same("minutes to 15", Rig.done(x, 1, "15"), 5);
        Check.same("crane(1, 0)", x.crane(1, 0), 15);
        Check.same("minutes to 14", Rig.done(x, 0, "14"), 15);
        Check.same("crane(0, 0)", x.crane(0, 0), 14);
        Check.same("minutes to 0", Rig.done(x, 0, "0"), 15);
        Check.same("minutes to 1", Rig.done(x, 1, "1"), 15);
        Check.same("crane(1, 0)", x.crane(1, 0), 1);
        Check.same("crane(0, 4)", x.crane(0, 4), 0);
        Check.same("crane(1, 4)", x.crane(1, 4), 0);
    }

    /** "GO: being there, it is done at once": eight of them in one minute. */
    private static void thereItIsDoneAtOnce() {
        HotAisle x = new HotAisle();
        Rig.give(x, 0, "3");
        Check.same("minutes(1)", x.minutes(1), 1);
        Rig.give(x, 0, "3 3 3 3 3 3 3 3");
        Check.same("minutes(1)", x.minutes(1), 8);
        Check.same("crane(0, 2)", x.crane(0, 2), 0);
        Check.same("crane(0, 4)", x.crane(0, 4), 0);
    }

    /** "and the next ORDER comes (GO too)": one that is done, one that waits, one that goes a step. */
    private static void theNextOneComesThen() {
        HotAisle x = new HotAisle();
        Rig.done(x, 0, "1");
        Rig.give(x, 0, "1 1 take 1");
        Check.same("minutes(1)", x.minutes(1), 3);
        Check.same("crane(0, 1)", x.crane(0, 1), 0);
        Rig.give(x, 1, "11 set");
        Check.same("minutes(1)", x.minutes(1), 2);
        Check.same("crane(1, 4)", x.crane(1, 4), 1);
        x.drop(1);
        Rig.give(x, 1, "11 11 12");
        Check.same("minutes(1)", x.minutes(1), 2);
        Check.same("crane(1, 0)", x.crane(1, 0), 12);
        Check.same("crane(1, 4)", x.crane(1, 4), 1);
    }

    /** "Behind a step .. its MINUTE is over": the GO is not done in the minute of its last step, nor is what comes next. */
    private static void stepEndsItsMinute() {
        HotAisle x = new HotAisle();
        Rig.give(x, 0, "2 1 take");
        Check.same("minutes(1)", x.minutes(1), 0);
        Check.same("crane(0, 0)", x.crane(0, 0), 2);
        Check.same("crane(0, 2)", x.crane(0, 2), 3);
        Check.same("minutes(1): there, and a step of the next", x.minutes(1), 1);
        Check.same("crane(0, 0)", x.crane(0, 0), 1);
        Check.same("crane(0, 1)", x.crane(0, 1), HotAisle.NONE);
        Check.same("minutes(1)", x.minutes(1), 2);
        Check.same("crane(0, 1)", x.crane(0, 1), 0);
    }

    /** "a wait": one a minute, whatever is behind it. */
    private static void waitEndsItsMinute() {
        HotAisle x = new HotAisle();
        Rig.give(x, 0, "set 3 3 2");
        Check.same("minutes(5)", x.minutes(5), 0);
        Check.same("crane(0, 4)", x.crane(0, 4), 5);
        Check.same("crane(0, 2)", x.crane(0, 2), 4);
        Check.same("crane(0, 0)", x.crane(0, 0), 3);
    }

    /** "one done that is no GO": even a GO that is there comes in the next minute. */
    private static void doneEndsItsMinute() {
        HotAisle x = new HotAisle();
        Rig.done(x, 0, "1");
        Rig.give(x, 0, "take 1 set take 0");
        Check.same("minutes(1)", x.minutes(1), 1);
        Check.same("crane(0, 2)", x.crane(0, 2), 4);
        Check.same("minutes(1)", x.minutes(1), 2);
        Check.same("crane(0, 1)", x.crane(0, 1), HotAisle.NONE);
        Check.same("minutes(1)", x.minutes(1), 1);
        Check.same("crane(0, 0)", x.crane(0, 0), 1);
        Check.same("minutes(1)", x.minutes(1), 0);
        Check.same("crane(0, 0)", x.crane(0, 0), 0);
        Check.same("crane(0, 4)", x.crane(0, 4), 0);
    }

    /** "if it is, it waits (WAITS are counted)": from either side. */
    private static void waitsForTheOther() {
        HotAisle x = Rig.then(new HotAisle(), 0, "10");
        Refusal.ofOrder("beside crane 1", () -> Rig.then(new HotAisle(), 0, "10"), 0, "11");
        Refusal.ofOrder("beside crane 1", () -> Rig.then(new HotAisle(), 0, "10"), 0, "15");
        Refusal.ofOrder("beside crane 0", () -> Rig.then(new HotAisle(), 0, "10"), 1, "10");
        Refusal.ofOrder("beside crane 0", () -> Rig.then(new HotAisle(), 0, "10"), 1, "0");
        Rig.give(x, 0, "15");
        x.minutes(3);
        Check.same("crane(0, 4)", x.crane(0, 4), 3);
        Check.same("crane(1, 4)", x.crane(1, 4), 0);
        Rig.give(x, 1, "0");
        x.minutes(3);
        Check.same("crane(0, 4)", x.crane(0, 4), 6);
        Check.same("crane(1, 4)", x.crane(1, 4), 3);
        Check.same("crane(0, 0)", x.crane(0, 0), 10);
        Check.same("crane(1, 0)", x.crane(1, 0), 11);
    }

    /** What waits stays the first of its orders, and those behind it stay too. */
    private static void waitsWithEightOrders() {
        HotAisle x = Rig.then(new HotAisle(), 0, "10");
        Rig.give(x, 0, "11 take 3 3 3 3 3 3");
        Rig.give(x, 1, "0 0 0 0 0 0 0 0");
        x.minutes(20);
        for (int crane = 0; crane < 2; crane++) {
            Check.same("crane(" + crane + ", 2)", x.crane(crane, 2), 8);
            Check.same("crane(" + crane + ", 3)", x.crane(crane, 3), Rig.GO);
            Check.same("crane(" + crane + ", 4)", x.crane(crane, 4), 20);
        }
    }

    /** One that waits for the other goes on when that has gone. */
    private static void theOtherMayStandStill() {
        HotAisle x = new HotAisle();
        Rig.give(x, 0, "11");
        x.minutes(10);
        Check.same("crane(0, 0)", x.crane(0, 0), 10);
        Check.same("crane(0, 4)", x.crane(0, 4), 3);
        Rig.give(x, 1, "12");
        x.minutes(1);
        Check.same("crane(0, 4): it looked before the other went", x.crane(0, 4), 4);
        Check.same("crane(1, 0)", x.crane(1, 0), 12);
        Check.same("minutes(2)", x.minutes(2), 2);
        Check.same("crane(0, 0)", x.crane(0, 0), 11);
        Check.same("crane(0, 4)", x.crane(0, 4), 4);
    }

    /** "CRANE 0's is always less than CRANE 1's": at either end of the rail too. */
    private static void neverPassesTheOther() {
        HotAisle x = new HotAisle();
        Rig.done(x, 1, "15");
        Rig.give(x, 0, "15");
        x.minutes(20);
        Check.same("crane(0, 0)", x.crane(0, 0), 14);
        Check.same("crane(0, 4)", x.crane(0, 4), 20 - 11);
        x.drop(0);
        Rig.done(x, 0, "0");
        Rig.give(x, 1, "0");
        x.minutes(20);
        Check.same("crane(1, 0)", x.crane(1, 0), 1);
        Check.same("crane(1, 4)", x.crane(1, 4), 20 - 14);
    }

    /** "CRANES 0, 1": they are at 6 and 8; crane 0 takes 7, and crane 1 waits for it. */
    private static void craneZeroGoesFirst() {
        HotAisle x = new HotAisle();
        Rig.give(x, 0, "6");
        Rig.give(x, 1, "8");
        x.minutes(4);
        Rig.give(x, 0, "7");
        Rig.give(x, 1, "7");
        x.minutes(1);
        Check.same("crane(0, 0)", x.crane(0, 0), 7);
        Check.same("crane(1, 0)", x.crane(1, 0), 8);
        Check.same("crane(0, 4)", x.crane(0, 4), 0);
        Check.same("crane(1, 4)", x.crane(1, 4), 1);
        x.drop(1);
        Rig.give(x, 0, "6");
        Rig.give(x, 1, "7");
        x.minutes(1);
        Check.same("crane(0, 0)", x.crane(0, 0), 6);
        Check.same("crane(1, 0): it looked when the other had gone", x.crane(1, 0), 7);
        Check.same("crane(1, 4)", x.crane(1, 4), 1);
    }

    /** The other crane hinders a step alone: beside it all else is done. */
    private static void besideTheOther() {
        HotAisle x = new HotAisle();
        Rig.done(x, 0, "10");
        Rig.doneAtOnce("beside crane 1", x, 0, "10");
        Rig.doneAtOnce("beside crane 1", x, 0, "take");
        Rig.doneAtOnce("beside crane 1", x, 0, "set");
        Rig.doneAtOnce("beside crane 0", x, 1, "11");
        Check.same("minutes from 10 to 9", Rig.done(x, 0, "9"), 2);
    }

    private static void ladleGoesWithIt() {
        HotAisle x = new HotAisle();
        Rig.done(x, 1, "10 take");
        Rig.give(x, 1, "13");
        for (int place = 11; place <= 13; place++) {
            x.minutes(1);
            Check.same("ladle(2, 0)", x.ladle(2, 0), place);
        }
        Rig.done(x, 0, "12");
        Rig.refused(x, 1, "0");
        Check.same("ladle(2, 0) of one that waits", x.ladle(2, 0), 13);
    }
}
