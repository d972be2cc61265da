/** Promise 4: blow. */
public final class BlowTest {
    public static void main(String[] args) {
        answersWhatWas();
        firstAndLast();
        beyond();
        noneThatHoldsNothing();
        notAlsoWhenItIsBlown();
        notBlownThoughItHoldsNothing();
        whateverItsHeat();
        oneUnitIsEnough();
        slagAloneIsEnough();
        whatWasCountedStays();
        Check.end();
    }

    /** "A VESSEL is BLOWN, or not: what was (1, 0)." */
    private static void answersWhatWas() {
        HotAisle x = Rig.withFullVessel();
        Check.same("blow(0, true)", x.blow(0, true), 0);
        Check.same("vessel(0, 1)", x.vessel(0, 1), 1);
        Check.same("blow(0, true)", x.blow(0, true), 1);
        Check.same("blow(0, false)", x.blow(0, false), 1);
        Check.same("vessel(0, 1)", x.vessel(0, 1), 0);
        Check.same("blow(0, false)", x.blow(0, false), 0);
        Check.same("vessel(0, 7): that is no stop", x.vessel(0, 7), 0);
    }

    /** VESSELS 0 and 2; neither is taken for the other. */
    private static void firstAndLast() {
        HotAisle x = new HotAisle();
        Rig.feed(x, 24);
        Rig.done(x, 1, "15");
        Rig.done(x, 0, "1 take 0 tap 12 pour 0 tap");
        Check.same("blow(2, true)", x.blow(2, true), 0);
        Check.same("blow(0, true)", x.blow(0, true), HotAisle.NO);
        Rig.done(x, 0, "4 pour");
        Check.same("vessel(0, 1)", x.vessel(0, 1), 0);
        Check.same("blow(0, true)", x.blow(0, true), 0);
        Check.same("blow(2, false)", x.blow(2, false), 1);
        Check.same("vessel(0, 1)", x.vessel(0, 1), 1);
        Check.same("vessel(1, 1)", x.vessel(1, 1), 0);
        Check.same("vessel(2, 1)", x.vessel(2, 1), 0);
    }

    /** "BAD." */
    private static void beyond() {
        Refusal.bad("blow(#, true)", 0, 2, (x, n) -> x.blow(n, true));
        Refusal.bad("blow(#, false)", 0, 2, (x, n) -> x.blow(n, false));
    }

    /** "NO: to be BLOWN it holds nothing." */
    private static void noneThatHoldsNothing() {
        for (int i = 0; i < 3; i++) {
            int vessel = i;
            Refusal.ofCall("blow(" + vessel + ", true)", HotAisle::new, x -> x.blow(vessel, true), HotAisle.NO);
        }
        Refusal.ofCall("blow(1, true)", Rig::busy, x -> x.blow(1, true), HotAisle.NO);
    }

    /** The same when it is BLOWN already: it stays so. */
    private static void notAlsoWhenItIsBlown() {
        Refusal.ofCall("blow(0, true)", BlowTest::blownAndEmptied, x -> x.blow(0, true), HotAisle.NO);
    }

    /** "to be BLOWN": not to be BLOWN it may hold nothing. */
    private static void notBlownThoughItHoldsNothing() {
        Check.same("blow(0, false)", new HotAisle().blow(0, false), 0);
        HotAisle x = blownAndEmptied();
        Check.same("vessel(0, 1)", x.vessel(0, 1), 1);
        Check.same("blow(0, false)", x.blow(0, false), 1);
        Check.same("vessel(0, 1)", x.vessel(0, 1), 0);
    }

    /** Its HEAT is looked at in the next MINUTE alone. */
    private static void whateverItsHeat() {
        HotAisle x = Rig.withCopper(50);
        Check.that("it is cold", x.vessel(0, 0) < 1000);
        Check.same("blow(0, true)", x.blow(0, true), 0);
        Check.same("vessel(0, 1)", x.vessel(0, 1), 1);
        Check.same("vessel(0, 7)", x.vessel(0, 7), 0);
    }

    private static void oneUnitIsEnough() {
        HotAisle x = Rig.withCopper(1);
        Check.same("blow(0, true)", x.blow(0, true), 0);
        Check.same("vessel(0, 1)", x.vessel(0, 1), 1);
    }

    /** It holds something, though no part of a minute can change it. */
    private static void slagAloneIsEnough() {
        HotAisle x = Rig.poured(1, 0);
        x.blow(0, true);
        x.minutes(2);
        x.blow(0, false);
        Rig.stuffOfVessel(x, 0, 0, 0, 0, 5);
        Check.same("blow(0, true)", x.blow(0, true), 0);
        Check.same("vessel(0, 1)", x.vessel(0, 1), 1);
    }

    /** HELD and STOPPED are counted ever, not since the vessel was blown. */
    private static void whatWasCountedStays() {
        HotAisle x = Rig.withFullVessel();
        x.limit(0);
        x.blow(0, true);
        x.minutes(8);
        Check.same("vessel(0, 6)", x.vessel(0, 6), 3);
        x.cold(0, 50);
        x.minutes(1);
        Check.same("vessel(0, 7)", x.vessel(0, 7), 1);
        x.blow(0, true);
        x.blow(0, false);
        Check.same("vessel(0, 6)", x.vessel(0, 6), 3);
        Check.same("vessel(0, 7)", x.vessel(0, 7), 1);
    }

    /** Vessel 0, blown, has lost all that it held to ladle 0. */
    private static HotAisle blownAndEmptied() {
        HotAisle x = Rig.poured(1, 0);
        x.blow(0, true);
        x.minutes(2);
        Rig.stuffOfVessel(x, 0, 0, 0, 0, 5);
        Rig.done(x, 0, "skim");
        Rig.stuffOfVessel(x, 0, 0, 0, 0, 0);
        return x;
    }
}
