/** Promise 5: cold. */
public final class ColdTest {
    public static void main(String[] args) {
        leastAndMost();
        heatIsCut();
        otherVessels();
        beyond();
        noneThatHoldsNothing();
        upToThreeHundred();
        aboveThirteenHundred();
        slagIsHeldToo();
        upToThreeHundredWithSlag();
        badBeforeNo();
        Check.end();
    }

    /** "k (1 to 50) COPPER, cold, come into a VESSEL". */
    private static void leastAndMost() {
        HotAisle x = Rig.withFullVessel();
        Check.same("cold(0, 1)", x.cold(0, 1), 1150 * 98 / 99);
        Rig.stuffOfVessel(x, 0, 43, 33, 23, 0);
        Rig.booked(x, 8, 49, 36, 24, 0);
        Check.same("cold(0, 50)", x.cold(0, 50), 1138 * 99 / 149);
        Rig.stuffOfVessel(x, 0, 93, 33, 23, 0);
        Rig.booked(x, 8, 99, 36, 24, 0);
        Rig.booked(x, 0, 4, 3, 1, 0);
    }

    /** "HEAT becomes HEAT times what it held by that with k, cut: HEAT then": 1150 * 98 / 101 is 1115.8. */
    private static void heatIsCut() {
        HotAisle x = Rig.withFullVessel();
        Check.same("cold(0, 3)", x.cold(0, 3), 1115);
        Check.same("vessel(0, 0)", x.vessel(0, 0), 1115);
        Check.same("count(0)", x.count(0), 22);
        // 1115 * 101 / 151 is 745.7, and 745 * 151 / 201 is 559.6.
        Check.same("cold(0, 50)", x.cold(0, 50), 745);
        Check.same("cold(0, 50)", x.cold(0, 50), 559);
    }

    /** The last VESSEL, blown or not; the others stay as they are. */
    private static void otherVessels() {
        HotAisle x = new HotAisle();
        Rig.feed(x, 1);
        Rig.done(x, 1, "15");
        Rig.done(x, 0, "1 take 0 tap 12 pour");
        x.blow(2, true);
        Check.same("cold(2, 1)", x.cold(2, 1), 1150 * 7 / 8);
        Rig.stuffOfVessel(x, 2, 3, 3, 2, 0);
        Rig.stuffOfVessel(x, 0, 0, 0, 0, 0);
        Check.same("vessel(0, 0)", x.vessel(0, 0), 1150);
        Check.same("vessel(2, 1)", x.vessel(2, 1), 1);
    }

    /** "BAD": a VESSEL or a k that there is none of. */
    private static void beyond() {
        Refusal.bad("cold(#, 1)", 0, 2, (x, n) -> x.cold(n, 1));
        Refusal.bad("cold(0, #)", 1, 50, (x, n) -> x.cold(0, n));
    }

    /** "NO: it .. holds nothing." */
    private static void noneThatHoldsNothing() {
        Refusal.ofCall("cold(0, 1)", HotAisle::new, x -> x.cold(0, 1), HotAisle.NO);
        Refusal.ofCall("cold(2, 50)", Rig::busy, x -> x.cold(2, 50), HotAisle.NO);
    }

    /** "VESSELS hold .. at most 300 together"; "NO: it would hold too much": 300 is not too much, 301 is. */
    private static void upToThreeHundred() {
        HotAisle x = holding299();
        int heat = x.vessel(0, 0);
        Check.same("cold(0, 1) makes it 300", x.cold(0, 1), heat * 299 / 300);
        Rig.stuffOfVessel(x, 0, 244, 33, 23, 0);
        Refusal.ofCall("cold(0, 2) to 301", ColdTest::holding299, y -> y.cold(0, 2), HotAisle.NO);
        Refusal.ofCall("cold(0, 50) to 349", ColdTest::holding299, y -> y.cold(0, 50), HotAisle.NO);
        Refusal.ofCall("cold(0, 1) to 301", ColdTest::holding300, y -> y.cold(0, 1), HotAisle.NO);
        x = holding250();
        heat = x.vessel(0, 0);
        Check.same("cold(0, 50) makes it 300", x.cold(0, 50), heat * 250 / 300);
        Refusal.ofCall("cold(0, 50) to 301", () -> Rig.cooled(holding250(), 0, 1), y -> y.cold(0, 50), HotAisle.NO);
    }

    /** It may be above 1300 still: 167 units at 1310 and one more are 1302.2. */
    private static void aboveThirteenHundred() {
        HotAisle x = Rig.cooled(Rig.withTwoLadles(), 0, 3);
        x.minutes(1);
        x.blow(0, true);
        x.minutes(16);
        Rig.stuffOfVessel(x, 0, 87, 0, 14, 66);
        Check.same("vessel(0, 0)", x.vessel(0, 0), 1310);
        Check.same("cold(0, 1)", x.cold(0, 1), 1302);
        Check.same("vessel(0, 0)", x.vessel(0, 0), 1302);
        Check.same("vessel(0, 1)", x.vessel(0, 1), 1);
    }

    /** "HEAT times what it held": slag alone is something. */
    private static void slagIsHeldToo() {
        HotAisle x = Rig.poured(1, 0);
        x.blow(0, true);
        x.minutes(2);
        Rig.stuffOfVessel(x, 0, 0, 0, 0, 5);
        Check.same("vessel(0, 0)", x.vessel(0, 0), 1156);
        Check.same("cold(0, 3)", x.cold(0, 3), 1156 * 5 / 8);
        Rig.stuffOfVessel(x, 0, 3, 0, 0, 5);
    }

    private static void upToThreeHundredWithSlag() {
        HotAisle x = with12Slag(299);
        int heat = x.vessel(0, 0);
        Check.same("cold(0, 1) makes it 300", x.cold(0, 1), heat * 299 / 300);
        Rig.stuffOfVessel(x, 0, 244, 21, 23, 12);
        Refusal.ofCall("cold(0, 2) to 301", () -> with12Slag(299), y -> y.cold(0, 2), HotAisle.NO);
        Refusal.ofCall("cold(0, 12) to 312", () -> with12Slag(300), y -> y.cold(0, 12), HotAisle.NO);
    }

    /** "Of several the first": BAD. */
    private static void badBeforeNo() {
        Refusal.bad("cold(1, #), empty", 1, 50, (x, n) -> x.cold(1, n));
        Refusal.ofCall("cold(3, 51)", Rig::busy, x -> x.cold(3, 51), HotAisle.BAD);
        Refusal.ofCall("cold(0, 51), full", ColdTest::holding300, x -> x.cold(0, 51), HotAisle.BAD);
        Refusal.ofCall("cold(0, 0), full", ColdTest::holding300, x -> x.cold(0, 0), HotAisle.BAD);
        Refusal.ofCall("cold(-1, 1), full", ColdTest::holding300, x -> x.cold(-1, 1), HotAisle.BAD);
    }

    private static HotAisle holding250() {
        HotAisle x = Rig.withFullVessel();
        int[] amounts = {50, 50, 50, 2};
        return Rig.cooled(x, 0, amounts);
    }

    /** So much (299, 300) is in vessel 0, twelve slag among it. */
    private static HotAisle with12Slag(int units) {
        HotAisle x = Rig.withFullVessel();
        x.blow(0, true);
        x.minutes(2);
        return Rig.cooled(x, 0, 50, 50, 50, 50, units - 298);
    }

    private static HotAisle holding299() {
        return Rig.cooled(holding250(), 0, 49);
    }

    private static HotAisle holding300() {
        return Rig.cooled(holding250(), 0, 50);
    }
}
