/** ORDER 7, CLEAN. */
public final class CleanTest {
    public static void main(String[] args) {
        atOneAndFourteen();
        elsewhere();
        noLadle();
        ladleIsNotEmpty();
        noSkull();
        skullOfOne();
        allThatTheSkullIsMadeOf();
        slagAlone();
        skullOfTwenty();
        roomAgain();
        Check.end();
    }

    /** "on FLOOR at 1 or 14": "the SKULL is gone from it, and counted". */
    private static void atOneAndFourteen() {
        HotAisle x = Rig.then(Rig.withFullVessel(), 0, "1");
        Rig.doneAtOnce("at 1", x, 0, "clean");
        Rig.stuffOfLadle(x, 0, 8, 0, 0, 0, 0);
        Rig.booked(x, 7, 2, 0, 0, 0);
        Rig.booked(x, 3, 0, 0, 0, 0);
        x = Rig.then(Rig.withMetal(), 1, "15 pour 14");
        Rig.doneAtOnce("at 14", x, 1, "clean");
        Rig.stuffOfLadle(x, 1, 8, 0, 0, 0, 0);
        Rig.booked(x, 7, 2, 0, 0, 0);
        // Ladle 0 has its skull still.
        Rig.booked(x, 3, 2, 0, 0, 2);
    }

    /** On no other FLOOR, nor where there is none. */
    private static void elsewhere() {
        int[] places = {0, 2, 3, 4, 5, 6, 7, 8, 9, 10, 11, 12, 13};
        for (int place : places) {
            Refusal.ofOrder("at " + place, () -> {
                HotAisle x = Rig.then(Rig.withFullVessel(), 1, "15");
                return Rig.then(x, 0, String.valueOf(place));
            }, 0, "clean");
        }
        Refusal.ofOrder("at 15", () -> Rig.then(Rig.withMetal(), 1, "15 pour"), 1, "clean");
    }

    /** It stands there, and does not hang. */
    private static void noLadle() {
        Refusal.ofOrder("with none", () -> Rig.then(Rig.withFullVessel(), 0, "1 set"), 0, "clean");
    }

    /** "with an EMPTY LADLE": of matte, of slag, of metal. */
    private static void ladleIsNotEmpty() {
        Refusal.ofOrder("with matte", () -> Rig.then(Rig.withFullVessel(), 0, "0 tap 1"), 0, "clean");
        Refusal.ofOrder("with slag", () -> {
            HotAisle x = Rig.withFullVessel();
            x.blow(0, true);
            x.minutes(1);
            return Rig.then(x, 0, "skim 1");
        }, 0, "clean");
        Refusal.ofOrder("with metal", () -> Rig.then(Rig.withCopperAlone(), 0, "4 draw 1"), 0, "clean");
    }

    /** "that has a SKULL". */
    private static void noSkull() {
        Refusal.ofOrder("with no skull", () -> Rig.then(new HotAisle(), 0, "1 take"), 0, "clean");
        Refusal.ofOrder("with no skull", () -> Rig.then(new HotAisle(), 1, "14 take"), 1, "clean");
        Refusal.ofOrder("a second time", () -> Rig.then(Rig.withFullVessel(), 0, "1 clean"), 0, "clean");
    }

    private static void skullOfOne() {
        HotAisle x = Rig.then(Rig.withCopper(1), 1, "6 take 4 draw 15 pour 14");
        Rig.stuffOfLadle(x, 1, 8, 1, 0, 0, 0);
        Rig.doneAtOnce("of one", x, 1, "clean");
        Rig.stuffOfLadle(x, 1, 8, 0, 0, 0, 0);
        // The ladle of crane 0 was cleaned before: 2 copper and 2 slag.
        Rig.booked(x, 7, 3, 0, 0, 2);
    }

    private static void allThatTheSkullIsMadeOf() {
        HotAisle x = Rig.withCopperAlone();
        Rig.stuffOfLadle(x, 0, 8, 2, 0, 0, 2);
        Rig.doneAtOnce("of copper and slag", x, 0, "clean");
        Rig.stuffOfLadle(x, 0, 8, 0, 0, 0, 0);
        Rig.booked(x, 7, 2, 0, 0, 2);
    }

    private static void slagAlone() {
        HotAisle x = Rig.poured(2, 0);
        x.blow(0, true);
        x.minutes(1);
        x.blow(0, false);
        Rig.done(x, 0, "0");
        Rig.done(x, 1, "6 take 4 skim 2 pour");
        Rig.done(x, 1, "14");
        Rig.stuffOfLadle(x, 1, 8, 0, 0, 0, 2);
        Rig.doneAtOnce("of slag", x, 1, "clean");
        Rig.stuffOfLadle(x, 1, 8, 0, 0, 0, 0);
        Rig.booked(x, 7, 0, 0, 0, 2);
    }

    /** All of it goes in one minute. */
    private static void skullOfTwenty() {
        HotAisle x = Rig.withSkull(20);
        Rig.refused(x, 0, "clean");
        Rig.done(x, 0, "1");
        Rig.doneAtOnce("of twenty", x, 0, "clean");
        Rig.stuffOfLadle(x, 0, 8, 0, 0, 0, 0);
        Rig.booked(x, 7, 20, 0, 0, 0);
        Rig.booked(x, 3, 0, 0, 0, 0);
    }

    /** A ladle that is clean may 100 again. */
    private static void roomAgain() {
        HotAisle x = Rig.then(Rig.withFullVessel(), 0, "1 clean 0");
        Rig.feed(x, 20);
        Rig.done(x, 0, "tap");
        Check.same("all of the ladle", x.book(2, 1) + x.book(2, 2) + x.book(2, 3), 100);
    }
}
