/** Promise 1: A new object. */
public final class NewObjectTest {
    public static void main(String[] args) {
        HotAisle x = new HotAisle();
        Check.same("crane(0, 0)", x.crane(0, 0), 3);
        Check.same("crane(1, 0)", x.crane(1, 0), 11);
        for (int crane = 0; crane < 2; crane++) {
            Check.same("ladle of crane " + crane, x.crane(crane, 1), HotAisle.NONE);
            Check.same("orders of crane " + crane, x.crane(crane, 2), 0);
            Check.same("first order of crane " + crane, x.crane(crane, 3), HotAisle.NONE);
            Check.same("waits of crane " + crane, x.crane(crane, 4), 0);
        }
        int[] places = {1, 6, 10, 14};
        for (int ladle = 0; ladle < 4; ladle++) {
            Check.same("place of ladle " + ladle, x.ladle(ladle, 0), places[ladle]);
            Check.same("crane of ladle " + ladle, x.ladle(ladle, 1), HotAisle.NONE);
            Check.same("sort of ladle " + ladle, x.ladle(ladle, 2), 0);
            Rig.stuffOfLadle(x, ladle, 4, 0, 0, 0, 0);
            Rig.stuffOfLadle(x, ladle, 8, 0, 0, 0, 0);
        }
        for (int vessel = 0; vessel < 3; vessel++) {
            Check.same("heat of vessel " + vessel, x.vessel(vessel, 0), 1150);
            Check.same("blown vessel " + vessel, x.vessel(vessel, 1), 0);
            Rig.stuffOfVessel(x, vessel, 0, 0, 0, 0);
            Check.same("held of vessel " + vessel, x.vessel(vessel, 6), 0);
            Check.same("stopped of vessel " + vessel, x.vessel(vessel, 7), 0);
        }
        for (int at = 0; at < 11; at++) {
            Rig.booked(x, at, 0, 0, 0, 0);
        }
        for (int what = 0; what < 10; what++) {
            Check.same("count(" + what + ")", x.count(what), what == 8 ? 12 : 0);
        }
        Check.same("fed(false)", x.fed(false), 0);
        Check.same("back()", x.back(), HotAisle.NO);
        standsAlone();
        Check.same("BAD", HotAisle.BAD, -1);
        Check.same("NO", HotAisle.NO, -2);
        Check.same("FULL", HotAisle.FULL, -3);
        Check.same("NONE", HotAisle.NONE, -4);
        Check.end();
    }

    private static void standsAlone() {
        HotAisle first = new HotAisle();
        HotAisle second = new HotAisle();
        first.keep();
        Rig.feed(first, 3);
        first.order(0, Rig.GO, 5);
        Check.same("count(0) of another object", second.count(0), 0);
        Check.same("count(7) of another object", second.count(7), 0);
        Check.same("book(0, 1) of another object", second.book(0, 1), 0);
        Check.same("crane(0, 2) of another object", second.crane(0, 2), 0);
    }
}
