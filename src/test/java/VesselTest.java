/** Promise 12: vessel. */
public final class VesselTest {
    public static void main(String[] args) {
        beyond();
        oneOfThree();
        Check.end();
    }

    /** "BAD." */
    private static void beyond() {
        for (int i = 0; i < 8; i++) {
            int what = i;
            Refusal.bad("vessel(#, " + what + ")", 0, 2, (x, n) -> x.vessel(n, what));
        }
        Refusal.bad("vessel(0, #)", 0, 7, (x, n) -> x.vessel(0, n));
        Refusal.bad("vessel(2, #)", 0, 7, (x, n) -> x.vessel(2, n));
        Refusal.ofCall("vessel(3, 8)", Rig::busy, x -> x.vessel(3, 8), HotAisle.BAD);
    }

    /** "0 HEAT, 1 BLOWN (1, 0), 1 + s how much of STUFF s, 6 HELD, 7 STOPPED": VESSEL 2, at 12, alone. */
    private static void oneOfThree() {
        HotAisle x = new HotAisle();
        Rig.feed(x, 12);
        Rig.done(x, 1, "15");
        Rig.done(x, 0, "1 take 0 tap 12 pour");
        Check.same("vessel(2, 0)", x.vessel(2, 0), 1150);
        Rig.stuffOfVessel(x, 2, 42, 33, 23, 0);
        Rig.stuffOfVessel(x, 0, 0, 0, 0, 0);
        Rig.stuffOfVessel(x, 1, 0, 0, 0, 0);
        x.limit(0);
        x.blow(2, true);
        x.minutes(6);
        Rig.stuffOfVessel(x, 2, 42, 3, 23, 30);
        Check.same("vessel(2, 0)", x.vessel(2, 0), 1222);
        Check.same("vessel(2, 1)", x.vessel(2, 1), 1);
        Check.same("vessel(2, 6)", x.vessel(2, 6), 1);
        Check.same("vessel(2, 7)", x.vessel(2, 7), 0);
        x.minutes(30);
        Check.same("vessel(2, 0)", x.vessel(2, 0), 982);
        Check.same("vessel(2, 1)", x.vessel(2, 1), 0);
        Check.same("vessel(2, 6): at 1222, 1214, .. to 1006", x.vessel(2, 6), 29);
        Check.same("vessel(2, 7)", x.vessel(2, 7), 1);
        for (int vessel = 0; vessel < 2; vessel++) {
            Check.same("heat of the empty ones", x.vessel(vessel, 0), 1150);
            Check.same("blown, of the empty ones", x.vessel(vessel, 1), 0);
            Check.same("held, of the empty ones", x.vessel(vessel, 6), 0);
            Check.same("stopped, of the empty ones", x.vessel(vessel, 7), 0);
        }
    }
}
