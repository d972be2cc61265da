/** ORDER 2, SET. */
public final class SetTest {
    public static void main(String[] args) {
        setsOnFreeFloor();
        itCarriesNone();
        noFloor();
        oneStandsThere();
        whereItStoodBefore();
        keepsWhatItHolds();
        Check.end();
    }

    /** "it carries one, FLOOR is there, and none stands there". */
    private static void setsOnFreeFloor() {
        int[] free = {1, 3, 5, 7, 9, 11, 13};
        for (int place : free) {
            HotAisle x = carryingTo(place);
            Rig.doneAtOnce("at " + place, x, 0, "set");
            Check.same("ladle(0, 0)", x.ladle(0, 0), place);
            Check.same("ladle(0, 1)", x.ladle(0, 1), HotAisle.NONE);
            Check.same("crane(0, 1)", x.crane(0, 1), HotAisle.NONE);
        }
    }

    private static void itCarriesNone() {
        Refusal.ofOrder("with none", HotAisle::new, 0, "set");
        Refusal.ofOrder("with none", HotAisle::new, 1, "set");
    }

    /** The furnace, the pot, the vessels and the wheel are no FLOOR. */
    private static void noFloor() {
        int[] places = {0, 2, 4, 8, 12};
        for (int place : places) {
            Refusal.ofOrder("at " + place, () -> carryingTo(place), 0, "set");
        }
        Refusal.ofOrder("at 15", () -> Rig.then(new HotAisle(), 1, "14 take 15"), 1, "set");
    }

    /** "one stands at a PLACE at most". */
    private static void oneStandsThere() {
        int[] taken = {6, 10, 14};
        for (int place : taken) {
            Refusal.ofOrder("at " + place, () -> carryingTo(place), 0, "set");
        }
    }

    /** One that was taken does not stand there any more, even if the other crane has it. */
    private static void whereItStoodBefore() {
        HotAisle x = Rig.then(new HotAisle(), 1, "10 take 15");
        Rig.done(x, 0, "6 take 10");
        Rig.doneAtOnce("at 10", x, 0, "set");
        Check.same("ladle(1, 0)", x.ladle(1, 0), 10);
        Check.same("ladle(2, 0)", x.ladle(2, 0), 15);
    }

    private static void keepsWhatItHolds() {
        HotAisle x = Rig.withMetal();
        Rig.done(x, 1, "9");
        Rig.doneAtOnce("with metal", x, 1, "set");
        Rig.stuffOfLadle(x, 1, 4, 38, 0, 0, 0);
        Check.same("ladle(1, 2)", x.ladle(1, 2), 3);
        Check.same("ladle(1, 0)", x.ladle(1, 0), 9);
    }

    /** Crane 0 with ladle 0 somewhere, crane 1 at 15. */
    private static HotAisle carryingTo(int place) {
        HotAisle x = Rig.then(new HotAisle(), 1, "15");
        return Rig.then(x, 0, "1 take " + place);
    }
}
