/** The second step of a minute: THE LIMIT, and when a vessel is HELD (promises 3, 4, 8, 12). */
public final class GasTest {
    public static void main(String[] args) {
        ownGasAtTheLimit();
        ownGasAboveTheLimit();
        allPartsAreNotDone();
        noGasIsNeverHeld();
        withThoseAheadAtTheLimit();
        withThoseAheadAboveTheLimit();
        thoseBehindDoNotCount();
        heldAheadDoesNotCount();
        stoppedAheadDoesNotCount();
        notBlownAheadDoesNotCount();
        eachMinuteAnew();
        threeVessels();
        threeVesselsAtTheFirstLimit();
        threeVesselsAtTheMostLimit();
        Check.end();
    }

    /** "would be above THE LIMIT": three gas with a limit of three are not, nor are six with six. */
    private static void ownGasAtTheLimit() {
        HotAisle x = Rig.withFullVessel();
        x.limit(3);
        x.blow(0, true);
        x.minutes(6);
        Check.same("vessel(0, 6)", x.vessel(0, 6), 0);
        Check.same("count(2)", x.count(2), 3);
        Rig.stuffOfVessel(x, 0, 42, 0, 20, 33);
        x.limit(6);
        x.minutes(1);
        Check.same("vessel(0, 6)", x.vessel(0, 6), 0);
        Check.same("count(2)", x.count(2), 6);
        Check.same("count(1)", x.count(1), 9);
        Rig.stuffOfVessel(x, 0, 42, 0, 14, 33);
    }

    /** Three gas with a limit of two are, and six with five; it is counted each minute. */
    private static void ownGasAboveTheLimit() {
        HotAisle x = Rig.withFullVessel();
        x.limit(2);
        x.blow(0, true);
        x.minutes(7);
        Check.same("vessel(0, 6)", x.vessel(0, 6), 2);
        Check.same("count(2)", x.count(2), 0);
        x.limit(3);
        x.minutes(1);
        Check.same("vessel(0, 6)", x.vessel(0, 6), 2);
        x.limit(5);
        x.minutes(3);
        Check.same("vessel(0, 6)", x.vessel(0, 6), 5);
        Check.same("count(1)", x.count(1), 3);
        Rig.stuffOfVessel(x, 0, 42, 0, 20, 33);
    }

    /** "all of its 6 PARTS are not done (HELD is counted)": neither the three iron nor a part of the gas. */
    private static void allPartsAreNotDone() {
        HotAisle x = Rig.withFullVessel();
        x.limit(2);
        x.blow(0, true);
        x.minutes(5);
        Rig.stuffOfVessel(x, 0, 42, 3, 23, 30);
        Check.same("vessel(0, 0)", x.vessel(0, 0), 1150 + 5 * 16);
        x.minutes(1);
        Rig.stuffOfVessel(x, 0, 42, 3, 23, 30);
        Check.same("vessel(0, 0)", x.vessel(0, 0), 1150 + 5 * 16 - 8);
        Check.same("vessel(0, 1)", x.vessel(0, 1), 1);
        Check.same("vessel(0, 6)", x.vessel(0, 6), 1);
        Check.same("vessel(0, 7)", x.vessel(0, 7), 0);
        Rig.booked(x, 9, 0, 30, 0, 0);
        Rig.booked(x, 10, 0, 0, 0, 30);
    }

    /** A limit of 0 holds none that has no sulphur to burn. */
    private static void noGasIsNeverHeld() {
        HotAisle x = Rig.withFullVessel();
        x.limit(0);
        x.blow(0, true);
        x.minutes(5);
        Check.same("held with iron", x.vessel(0, 6), 0);
        x.minutes(1);
        Check.same("held with three sulphur", x.vessel(0, 6), 1);
        x.limit(12);
        x.minutes(5);
        Rig.stuffOfVessel(x, 0, 38, 0, 0, 37);
        x.limit(0);
        x.minutes(1);
        Rig.stuffOfVessel(x, 0, 32, 0, 0, 43);
        Check.same("held with copper", x.vessel(0, 6), 1);
    }

    /** "its GAS with that of the VESSELS ahead in this MINUTE": six and six with a limit of twelve. */
    private static void withThoseAheadAtTheLimit() {
        HotAisle x = twoOfTwelveSulphur();
        x.limit(12);
        x.minutes(1);
        Check.same("vessel(0, 6)", x.vessel(0, 6), 0);
        Check.same("vessel(1, 6)", x.vessel(1, 6), 0);
        Check.same("count(2)", x.count(2), 12);
        Check.same("count(1)", x.count(1), 12);
    }

    /** Six and six with a limit of eleven: the second is held, though its own six are not above it. */
    private static void withThoseAheadAboveTheLimit() {
        HotAisle x = twoOfTwelveSulphur();
        x.limit(11);
        x.minutes(1);
        Check.same("vessel(0, 6)", x.vessel(0, 6), 0);
        Check.same("vessel(1, 6)", x.vessel(1, 6), 1);
        Check.same("count(2)", x.count(2), 6);
        Rig.stuffOfVessel(x, 0, 22, 0, 6, 18);
        Rig.stuffOfVessel(x, 1, 22, 0, 12, 18);
    }

    /** The second's six never hold the first. */
    private static void thoseBehindDoNotCount() {
        HotAisle x = twoOfTwelveSulphur();
        x.limit(6);
        x.minutes(2);
        Check.same("vessel(0, 6)", x.vessel(0, 6), 0);
        Check.same("vessel(1, 6)", x.vessel(1, 6), 2);
        Rig.stuffOfVessel(x, 0, 22, 0, 0, 18);
        x.minutes(2);
        Check.same("vessel(1, 6)", x.vessel(1, 6), 2);
        Rig.stuffOfVessel(x, 1, 22, 0, 0, 18);
    }

    /** The first would give six and is held; the second's one is within a limit of five all the same. */
    private static void heldAheadDoesNotCount() {
        HotAisle x = twoVesselsOfTwentyAndOne();
        x.limit(5);
        x.minutes(1);
        Check.same("vessel(0, 6)", x.vessel(0, 6), 1);
        Check.same("vessel(1, 6)", x.vessel(1, 6), 0);
        Check.same("count(2)", x.count(2), 1);
        Rig.stuffOfVessel(x, 0, 42, 0, 20, 33);
        Rig.stuffOfVessel(x, 1, 36, 0, 0, 37);
    }

    /** The first is too cold. */
    private static void stoppedAheadDoesNotCount() {
        HotAisle x = twoOfTwelveSulphur();
        x.cold(0, 50);
        Check.that("it is too cold", x.vessel(0, 0) < 1000);
        x.limit(6);
        x.minutes(1);
        Check.same("vessel(0, 7)", x.vessel(0, 7), 1);
        Check.same("vessel(0, 6)", x.vessel(0, 6), 0);
        Check.same("vessel(1, 6)", x.vessel(1, 6), 0);
        Check.same("count(2)", x.count(2), 6);
    }

    private static void notBlownAheadDoesNotCount() {
        HotAisle x = twoOfTwelveSulphur();
        x.blow(0, false);
        x.limit(6);
        x.minutes(1);
        Check.same("vessel(1, 6)", x.vessel(1, 6), 0);
        Check.same("count(2)", x.count(2), 6);
        // One that is not blown is not held either.
        x.limit(0);
        x.minutes(1);
        Check.same("vessel(0, 6)", x.vessel(0, 6), 0);
        Check.same("vessel(1, 6)", x.vessel(1, 6), 1);
    }

    /** "in this MINUTE": the gas of the one before is gone. */
    private static void eachMinuteAnew() {
        HotAisle x = twoOfTwelveSulphur();
        x.limit(12);
        x.minutes(2);
        Check.same("vessel(0, 6)", x.vessel(0, 6), 0);
        Check.same("vessel(1, 6)", x.vessel(1, 6), 0);
        Check.same("count(2)", x.count(2), 12);
        Check.same("count(1)", x.count(1), 24);
        x.minutes(1);
        Check.same("count(2)", x.count(2), 0);
        Check.same("count(1)", x.count(1), 24);
    }

    /** Three times six with a limit of 18, and with one of 17, which holds the third. */
    private static void threeVessels() {
        HotAisle x = threeOfTwelveSulphur();
        x.limit(18);
        x.minutes(1);
        Check.same("count(2)", x.count(2), 18);
        Check.same("vessel(2, 6)", x.vessel(2, 6), 0);
        x.limit(17);
        x.minutes(1);
        Check.same("count(2)", x.count(2), 12);
        Check.same("vessel(0, 6)", x.vessel(0, 6), 0);
        Check.same("vessel(1, 6)", x.vessel(1, 6), 0);
        Check.same("vessel(2, 6)", x.vessel(2, 6), 1);
        Rig.stuffOfVessel(x, 0, 22, 0, 0, 18);
        Rig.stuffOfVessel(x, 1, 22, 0, 0, 18);
        Rig.stuffOfVessel(x, 2, 22, 0, 6, 18);
        x.minutes(1);
        Check.same("count(2)", x.count(2), 6);
    }

    /** "THE LIMIT 12" of a new object holds the third. */
    private static void threeVesselsAtTheFirstLimit() {
        HotAisle x = threeOfTwelveSulphur();
        x.limit(12);
        x.minutes(2);
        Check.same("count(2)", x.count(2), 12);
        Check.same("count(1)", x.count(1), 24);
        Check.same("vessel(2, 6)", x.vessel(2, 6), 2);
        x.minutes(1);
        Check.same("count(2)", x.count(2), 6);
        Check.same("vessel(2, 6)", x.vessel(2, 6), 2);
    }

    private static void threeVesselsAtTheMostLimit() {
        HotAisle x = threeOfTwelveSulphur();
        x.limit(30);
        x.minutes(1);
        Check.same("count(2)", x.count(2), 18);
        Check.same("count(1)", x.count(1), 18);
        for (int vessel = 0; vessel < 3; vessel++) {
            Check.same("vessel(" + vessel + ", 6)", x.vessel(vessel, 6), 0);
        }
    }

    /** Vessels 0 and 1, blown, with 22 copper, 12 sulphur and 18 slag each. */
    private static HotAisle twoOfTwelveSulphur() {
        HotAisle x = Rig.withTwoVessels();
        x.blow(0, true);
        x.blow(1, true);
        x.minutes(3);
        Rig.stuffOfVessel(x, 0, 22, 0, 12, 18);
        Rig.stuffOfVessel(x, 1, 22, 0, 12, 18);
        return x;
    }

    /** Vessels 0 and 1, blown, with 20 and 1 sulphur and no iron. */
    private static HotAisle twoVesselsOfTwentyAndOne() {
        HotAisle x = new HotAisle();
        Rig.feed(x, 24);
        Rig.done(x, 0, "1 take 0 tap 4 pour 0 tap");
        Rig.done(x, 0, "8 pour");
        x.limit(30);
        x.blow(0, true);
        x.blow(1, true);
        x.minutes(6);
        x.blow(0, false);
        x.minutes(3);
        x.blow(0, true);
        Rig.stuffOfVessel(x, 0, 42, 0, 20, 33);
        Rig.stuffOfVessel(x, 1, 41, 0, 1, 32);
        return x;
    }

    /** All vessels, blown, with 22 copper, 12 sulphur and 18 slag each: three ladles are set beside them, then poured. */
    private static HotAisle threeOfTwelveSulphur() {
        HotAisle x = new HotAisle();
        Rig.done(x, 1, "15");
        fill(x, 1, 3);
        fill(x, 6, 7);
        fill(x, 10, 11);
        Rig.done(x, 0, "7");
        Rig.give(x, 1, "11 take 12 pour");
        Rig.done(x, 0, "take 8 pour 7 set 3 take");
        Rig.done(x, 0, "4 pour");
        x.limit(30);
        for (int vessel = 0; vessel < 3; vessel++) {
            x.blow(vessel, true);
        }
        x.minutes(3);
        for (int vessel = 0; vessel < 3; vessel++) {
            Rig.stuffOfVessel(x, vessel, 22, 0, 12, 18);
        }
        return x;
    }

    /** Crane 0 takes a ladle, fills it with what is fed in six minutes, and sets it somewhere. */
    private static void fill(HotAisle x, int from, int to) {
        Rig.feed(x, 6);
        Rig.done(x, 0, from + " take 0 tap " + to + " set");
    }
}
