/** Promise 3: limit. */
public final class LimitTest {
    public static void main(String[] args) {
        HotAisle x = new HotAisle();
        int[] bad = {-1, 31, 32, Integer.MIN_VALUE, Integer.MAX_VALUE};
        for (int gas : bad) {
            Check.same("limit(" + gas + ")", x.limit(gas), HotAisle.BAD);
            Check.same("count(8)", x.count(8), 12);
        }
        Check.same("limit(0)", x.limit(0), 12);
        Check.same("count(8)", x.count(8), 0);
        Check.same("limit(30)", x.limit(30), 0);
        Check.same("limit(1)", x.limit(1), 30);
        Check.same("limit(1)", x.limit(1), 1);
        Check.same("limit(29)", x.limit(29), 1);
        Check.same("count(8)", x.count(8), 29);
        holdsVesselsBack();
        Check.end();
    }

    /** Minute 6 of a full vessel gives 3 gas, and the next ones 6. */
    private static void holdsVesselsBack() {
        HotAisle x = Rig.withFullVessel();
        x.blow(0, true);
        x.limit(2);
        x.minutes(5);
        Check.same("held with no gas to come", x.vessel(0, 6), 0);
        x.minutes(2);
        Check.same("held above the limit", x.vessel(0, 6), 2);
        Check.same("heat when held", x.vessel(0, 0), 1230 - 16);
        Check.same("blown when held", x.vessel(0, 1), 1);
        Rig.stuffOfVessel(x, 0, 42, 3, 23, 30);
        x.limit(3);
        x.minutes(1);
        Check.same("held at the limit", x.vessel(0, 6), 2);
        Rig.stuffOfVessel(x, 0, 42, 0, 20, 33);
        Check.same("count(2)", x.count(2), 3);
        x.limit(5);
        x.minutes(1);
        Check.same("held above the limit", x.vessel(0, 6), 3);
        Check.same("count(2) when held", x.count(2), 0);
        x.limit(6);
        x.minutes(1);
        Check.same("held at the limit", x.vessel(0, 6), 3);
        Check.same("count(2)", x.count(2), 6);
        Check.same("count(1)", x.count(1), 9);
    }
}
