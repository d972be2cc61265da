/** ORDER 1, TAKE. */
public final class TakeTest {
    public static void main(String[] args) {
        takesTheOneThatStandsThere();
        noneStandsThere();
        itCarriesOne();
        theOtherHasTakenIt();
        whateverIsInIt();
        Check.end();
    }

    /** "a LADLE stands there". */
    private static void takesTheOneThatStandsThere() {
        int[] places = {1, 6, 10, 14};
        for (int ladle = 0; ladle < 4; ladle++) {
            HotAisle x = new HotAisle();
            int crane = ladle / 2;
            Rig.done(x, crane, String.valueOf(places[ladle]));
            Rig.doneAtOnce("at " + places[ladle], x, crane, "take");
            Check.same("crane(" + crane + ", 1)", x.crane(crane, 1), ladle);
            Check.same("ladle(" + ladle + ", 1)", x.ladle(ladle, 1), crane);
            Check.same("ladle(" + ladle + ", 0)", x.ladle(ladle, 0), places[ladle]);
        }
    }

    private static void noneStandsThere() {
        Refusal.ofOrder("at 3", HotAisle::new, 0, "take");
        Refusal.ofOrder("at 11", HotAisle::new, 1, "take");
        Refusal.ofOrder("beside ladle 0", () -> Rig.then(new HotAisle(), 0, "0"), 0, "take");
        Refusal.ofOrder("beside ladle 0", () -> Rig.then(new HotAisle(), 0, "2"), 0, "take");
        // Its own ladle is gone from there.
        Refusal.ofOrder("at 1, moved", () -> Rig.then(Rig.then(new HotAisle(), 0, "1 take 3 set"), 0, "1"), 0, "take");
    }

    /** "it carries none": it has one, and another one stands there. */
    private static void itCarriesOne() {
        Refusal.ofOrder("at 6 with ladle 0", () -> Rig.then(new HotAisle(), 0, "1 take 6"), 0, "take");
        Refusal.ofOrder("at 1 with ladle 0", () -> Rig.then(new HotAisle(), 0, "1 take"), 0, "take");
    }

    /** One that hangs does not stand where it stood. */
    private static void theOtherHasTakenIt() {
        Refusal.ofOrder("at 6", () -> Rig.then(Rig.then(new HotAisle(), 1, "6 take 12"), 0, "6"), 0, "take");
    }

    private static void whateverIsInIt() {
        HotAisle x = Rig.withMetal();
        Rig.done(x, 1, "3 set");
        Rig.doneAtOnce("with metal", x, 1, "take");
        Rig.stuffOfLadle(x, 1, 4, 38, 0, 0, 0);
        Check.same("ladle(1, 2)", x.ladle(1, 2), 3);
        Check.same("ladle(1, 1)", x.ladle(1, 1), 1);
        x = Rig.then(Rig.withCopperAlone(), 0, "set");
        Rig.doneAtOnce("with a skull", x, 0, "take");
        Rig.stuffOfLadle(x, 0, 8, 2, 0, 0, 2);
        x = Rig.then(Rig.withFullVessel(), 0, "0 tap 3 set");
        Rig.doneAtOnce("with matte", x, 0, "take");
        Rig.stuffOfLadle(x, 0, 4, 4, 3, 1, 0);
    }
}
