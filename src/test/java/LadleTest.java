/** Promise 11: ladle. */
public final class LadleTest {
    public static void main(String[] args) {
        wrong();
        standsAndHangs();
        sorts();
        Check.end();
    }

    private static void wrong() {
        HotAisle x = new HotAisle();
        int[] bad = {-1, 4, Integer.MIN_VALUE, Integer.MAX_VALUE};
        for (int ladle : bad) {
            Check.same("ladle(" + ladle + ", 0)", x.ladle(ladle, 0), HotAisle.BAD);
        }
        int[] badOnes = {-1, 3, 12, 13, Integer.MIN_VALUE, Integer.MAX_VALUE};
        for (int ladle = 0; ladle < 4; ladle++) {
            for (int what : badOnes) {
                Check.same("ladle(" + ladle + ", " + what + ")", x.ladle(ladle, what), HotAisle.BAD);
            }
        }
    }

    private static void standsAndHangs() {
        HotAisle x = new HotAisle();
        Rig.done(x, 1, "14 take");
        Check.same("ladle(3, 0)", x.ladle(3, 0), 14);
        Check.same("ladle(3, 1)", x.ladle(3, 1), 1);
        Rig.done(x, 1, "12");
        Check.same("ladle(3, 0) goes with its crane", x.ladle(3, 0), 12);
        Check.same("ladle(2, 0)", x.ladle(2, 0), 10);
        Rig.done(x, 1, "11 set 13");
        Check.same("ladle(3, 0) stays where it is set", x.ladle(3, 0), 11);
        Check.same("ladle(3, 1)", x.ladle(3, 1), HotAisle.NONE);
        Rig.done(x, 0, "11 take 9");
        Check.same("ladle(3, 0)", x.ladle(3, 0), 9);
        Check.same("ladle(3, 1)", x.ladle(3, 1), 0);
    }

    private static void sorts() {
        HotAisle x = new HotAisle();
        Rig.feed(x, 12);
        Rig.done(x, 0, "1 take 0 tap");
        Check.same("ladle(0, 2)", x.ladle(0, 2), 1);
        Rig.stuffOfLadle(x, 0, 4, 44, 33, 23, 0);
        Rig.stuffOfLadle(x, 0, 8, 0, 0, 0, 0);
        Rig.done(x, 0, "4 pour");
        Check.same("ladle(0, 2)", x.ladle(0, 2), 0);
        Rig.stuffOfLadle(x, 0, 4, 0, 0, 0, 0);
        Rig.stuffOfLadle(x, 0, 8, 2, 0, 0, 0);
        x.blow(0, true);
        x.minutes(1);
        Rig.done(x, 0, "skim");
        Check.same("ladle(0, 2)", x.ladle(0, 2), 2);
        Rig.stuffOfLadle(x, 0, 4, 0, 0, 0, 12);
        Rig.stuffOfLadle(x, 0, 8, 2, 0, 0, 0);
        x = Rig.withMetal();
        Check.same("ladle(1, 2)", x.ladle(1, 2), 3);
        Rig.stuffOfLadle(x, 1, 4, 38, 0, 0, 0);
        Rig.stuffOfLadle(x, 0, 8, 2, 0, 0, 2);
        Rig.stuffOfLadle(x, 2, 4, 0, 0, 0, 0);
    }
}
