/** Promise 11: ladle. */
public final class LadleTest {
    public static void main(String[] args) {
        beyond();
        thereIsNoThree();
        standsAndHangs();
        matte();
        slag();
        metal();
        lastLadleAndLastStuff();
        Check.end();
    }

    /** "BAD." */
    private static void beyond() {
        Refusal.bad("ladle(#, 0)", 0, 3, (x, n) -> x.ladle(n, 0));
        Refusal.bad("ladle(#, 2)", 0, 3, (x, n) -> x.ladle(n, 2));
        Refusal.bad("ladle(#, 11)", 0, 3, (x, n) -> x.ladle(n, 11));
        Refusal.bad("ladle(0, #)", 0, 11, (x, n) -> x.ladle(0, n));
        Refusal.bad("ladle(3, #)", 0, 11, (x, n) -> x.ladle(3, n));
        Refusal.ofCall("ladle(4, 12)", Rig::busy, x -> x.ladle(4, 12), HotAisle.BAD);
    }

    /** "3 + s how much it holds of STUFF s (1 COPPER, ..": there is no STUFF 0. */
    private static void thereIsNoThree() {
        for (int i = 0; i < 4; i++) {
            int ladle = i;
            Refusal.ofCall("ladle(" + ladle + ", 3)", Rig::busy, x -> x.ladle(ladle, 3), HotAisle.BAD);
        }
    }

    /** "0 where it stands or hangs, 1 the CRANE that carries it (NONE)". */
    private static void standsAndHangs() {
        HotAisle x = new HotAisle();
        Rig.done(x, 1, "14 take");
        Check.same("ladle(3, 0)", x.ladle(3, 0), 14);
        Check.same("ladle(3, 1)", x.ladle(3, 1), 1);
        Rig.done(x, 1, "12");
        Check.same("ladle(3, 0) goes with its crane", x.ladle(3, 0), 12);
        Check.same("ladle(2, 0)", x.ladle(2, 0), 10);
        Rig.done(x, 1, "11 set 13");
        Check.same("ladle(3, 0) stays where it is set", x.ladle(3, 0), 11);
        Check.same("ladle(3, 1)", x.ladle(3, 1), HotAisle.NONE);
        Rig.done(x, 0, "11 take 9");
        Check.same("ladle(3, 0)", x.ladle(3, 0), 9);
        Check.same("ladle(3, 1)", x.ladle(3, 1), 0);
        Rig.done(x, 0, "0");
        Check.same("ladle(3, 0) at the first place", x.ladle(3, 0), 0);
    }

    /** "2 SORT: 0 EMPTY, 1 MATTE". */
    private static void matte() {
        HotAisle x = new HotAisle();
        Rig.feed(x, 12);
        Rig.done(x, 0, "1 take 0 tap");
        Check.same("ladle(0, 2)", x.ladle(0, 2), 1);
        Rig.stuffOfLadle(x, 0, 4, 44, 33, 23, 0);
        Rig.stuffOfLadle(x, 0, 8, 0, 0, 0, 0);
        Rig.done(x, 0, "4 pour");
        Check.same("ladle(0, 2)", x.ladle(0, 2), 0);
        Rig.stuffOfLadle(x, 0, 4, 0, 0, 0, 0);
        Rig.stuffOfLadle(x, 0, 8, 2, 0, 0, 0);
    }

    /** "2 SLAG". */
    private static void slag() {
        HotAisle x = Rig.withFullVessel();
        x.blow(0, true);
        x.minutes(1);
        Rig.done(x, 0, "skim");
        Check.same("ladle(0, 2)", x.ladle(0, 2), 2);
        Rig.stuffOfLadle(x, 0, 4, 0, 0, 0, 12);
        Rig.stuffOfLadle(x, 0, 8, 2, 0, 0, 0);
    }

    /** "3 METAL". */
    private static void metal() {
        HotAisle x = Rig.withMetal();
        Check.same("ladle(1, 2)", x.ladle(1, 2), 3);
        Rig.stuffOfLadle(x, 1, 4, 38, 0, 0, 0);
        Rig.stuffOfLadle(x, 1, 8, 0, 0, 0, 0);
        Rig.stuffOfLadle(x, 0, 8, 2, 0, 0, 2);
        Rig.stuffOfLadle(x, 2, 4, 0, 0, 0, 0);
    }

    /** "7 + s how much its SKULL has of that": LADLE 3 and SLAG. */
    private static void lastLadleAndLastStuff() {
        HotAisle x = Rig.poured(4, 0);
        x.blow(0, true);
        x.minutes(2);
        x.blow(0, false);
        Rig.done(x, 0, "1 set 0");
        Rig.done(x, 1, "14 take 4 skim");
        Rig.stuffOfLadle(x, 3, 4, 0, 0, 0, 12);
        Rig.done(x, 1, "3 set 15");
        Rig.done(x, 0, "3 take 2 pour");
        Check.same("ladle(3, 0)", x.ladle(3, 0), 2);
        Check.same("ladle(3, 1)", x.ladle(3, 1), 0);
        Check.same("ladle(3, 2)", x.ladle(3, 2), 0);
        Rig.stuffOfLadle(x, 3, 4, 0, 0, 0, 0);
        Rig.stuffOfLadle(x, 3, 8, 0, 0, 0, 2);
    }
}
