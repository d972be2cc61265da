/** Promise 5: cold. */
public final class ColdTest {
    public static void main(String[] args) {
        HotAisle x = Rig.withFullVessel();
        wrong(x);
        Check.same("cold(1, 1) of an empty one", x.cold(1, 1), HotAisle.NO);
        Check.same("cold(1, 51) of an empty one", x.cold(1, 51), HotAisle.BAD);
        Rig.stuffOfVessel(x, 1, 0, 0, 0, 0);
        Rig.booked(x, 8, 48, 36, 24, 0);
        Check.same("cold(0, 1)", x.cold(0, 1), 1138);
        Rig.stuffOfVessel(x, 0, 43, 33, 23, 0);
        Check.same("cold(0, 50)", x.cold(0, 50), 1138 * 99 / 149);
        Check.same("vessel(0, 0)", x.vessel(0, 0), 756);
        Rig.stuffOfVessel(x, 0, 93, 33, 23, 0);
        Rig.booked(x, 8, 99, 36, 24, 0);
        fills(x);
        Check.end();
    }

    private static void wrong(HotAisle x) {
        int[] badVessels = {-1, 3, Integer.MIN_VALUE, Integer.MAX_VALUE};
        for (int vessel : badVessels) {
            Check.same("cold(" + vessel + ", 5)", x.cold(vessel, 5), HotAisle.BAD);
        }
        int[] badAmounts = {0, -1, 51, Integer.MIN_VALUE, Integer.MAX_VALUE};
        for (int k : badAmounts) {
            Check.same("cold(0, " + k + ")", x.cold(0, k), HotAisle.BAD);
        }
        Check.same("vessel(0, 0)", x.vessel(0, 0), 1150);
        Rig.stuffOfVessel(x, 0, 42, 33, 23, 0);
    }

    /** 149 are in it: three of 50 and one make 300. */
    private static void fills(HotAisle x) {
        x.cold(0, 50);
        x.cold(0, 50);
        int heat = x.vessel(0, 0);
        Check.same("cold(0, 50) would make it 299", x.cold(0, 50), heat * 249 / 299);
        heat = x.vessel(0, 0);
        Check.same("cold(0, 2) would make it 301", x.cold(0, 2), HotAisle.NO);
        Check.same("vessel(0, 0)", x.vessel(0, 0), heat);
        Rig.stuffOfVessel(x, 0, 243, 33, 23, 0);
        Check.same("cold(0, 1) makes it 300", x.cold(0, 1), heat * 299 / 300);
        Check.same("cold(0, 1) would make it 301", x.cold(0, 1), HotAisle.NO);
        Rig.stuffOfVessel(x, 0, 244, 33, 23, 0);
        Rig.booked(x, 8, 250, 36, 24, 0);
    }
}
