/** Promise 12: vessel. */
public final class VesselTest {
    public static void main(String[] args) {
        HotAisle x = new HotAisle();
        int[] bad = {-1, 3, Integer.MIN_VALUE, Integer.MAX_VALUE};
        for (int vessel : bad) {
            Check.same("vessel(" + vessel + ", 0)", x.vessel(vessel, 0), HotAisle.BAD);
        }
        int[] badOnes = {-1, 8, 9, Integer.MIN_VALUE, Integer.MAX_VALUE};
        for (int vessel = 0; vessel < 3; vessel++) {
            for (int what : badOnes) {
                Check.same("vessel(" + vessel + ", " + what + ")", x.vessel(vessel, what), HotAisle.BAD);
            }
        }
        oneOfThree();
        Check.end();
    }

    /** Vessel 2, at 12, alone is filled, blown, held and stopped. */
    private static void oneOfThree() {
        HotAisle x = new HotAisle();
        Rig.feed(x, 12);
        Rig.done(x, 1, "15");
        Rig.done(x, 0, "1 take 0 tap 12 pour");
        Check.same("vessel(2, 0)", x.vessel(2, 0), 1150);
        Rig.stuffOfVessel(x, 2, 42, 33, 23, 0);
        Rig.stuffOfVessel(x, 0, 0, 0, 0, 0);
        Rig.stuffOfVessel(x, 1, 0, 0, 0, 0);
        x.limit(0);
        x.blow(2, true);
        x.minutes(6);
        Rig.stuffOfVessel(x, 2, 42, 3, 23, 30);
        Check.same("vessel(2, 0)", x.vessel(2, 0), 1222);
        Check.same("vessel(2, 1)", x.vessel(2, 1), 1);
        Check.same("vessel(2, 6)", x.vessel(2, 6), 1);
        Check.same("vessel(2, 7)", x.vessel(2, 7), 0);
        x.minutes(30);
        Check.same("vessel(2, 0)", x.vessel(2, 0), 982);
        Check.same("vessel(2, 1)", x.vessel(2, 1), 0);
        Check.same("vessel(2, 6): at 1222, 1214, .. to 1006", x.vessel(2, 6), 29);
        Check.same("vessel(2, 7)", x.vessel(2, 7), 1);
        for (int vessel = 0; vessel < 2; vessel++) {
            Check.same("heat of the empty ones", x.vessel(vessel, 0), 1150);
            Check.same("blown, of the empty ones", x.vessel(vessel, 1), 0);
            Check.same("held, of the empty ones", x.vessel(vessel, 6), 0);
            Check.same("stopped, of the empty ones", x.vessel(vessel, 7), 0);
        }
    }
}
