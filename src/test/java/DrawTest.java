/** ORDER 6, DRAW. */
public final class DrawTest {
    public static void main(String[] args) {
        copperAlone();
        notCopperAlone();
        nothing();
        blown();
        blownThoughItHoldsCopperAlone();
        stoppedInThatMinute();
        noLadle();
        ladleIsNotEmpty();
        noVessel();
        theLastOne();
        asMuchAsTheLadleMay();
        lessItsSkull();
        hotOrCold();
        Check.end();
    }

    /** "METAL comes": the heat of the vessel stays, but for the minute's 8. */
    private static void copperAlone() {
        HotAisle x = Rig.then(Rig.withCopperAlone(), 0, "4");
        int heat = x.vessel(0, 0);
        Check.that("it is hot", heat > 1000);
        Rig.doneAtOnce("of 38", x, 0, "draw");
        Rig.stuffOfLadle(x, 0, 4, 38, 0, 0, 0);
        Rig.stuffOfVessel(x, 0, 0, 0, 0, 0);
        Check.same("ladle(0, 2)", x.ladle(0, 2), 3);
        Check.same("vessel(0, 0)", x.vessel(0, 0), heat - 8);
    }

    /** "at a VESSEL that holds COPPER alone": not with one iron, one sulphur or one slag, nor without copper. */
    private static void notCopperAlone() {
        Refusal.ofOrder("of matte", Rig::withFullVessel, 0, "draw");
        Refusal.ofOrder("with one iron", () -> Rig.cooled(Rig.withOneIron(), 0, 5), 0, "draw");
        Refusal.ofOrder("of one iron", Rig::withOneIron, 0, "draw");
        Refusal.ofOrder("with one sulphur", DrawTest::withOneSulphur, 0, "draw");
        Refusal.ofOrder("with one slag", () -> Rig.cooled(oneSlag(), 0, 5), 0, "draw");
        Refusal.ofOrder("of one slag", DrawTest::oneSlag, 0, "draw");
    }

    private static void nothing() {
        Refusal.ofOrder("of nothing", () -> Rig.then(new HotAisle(), 0, "1 take 4"), 0, "draw");
        Refusal.ofOrder("of one drawn empty", () -> {
            HotAisle x = Rig.then(overVessel(9), 0, "draw 3 set 0");
            return Rig.then(x, 1, "6 take 4");
        }, 1, "draw");
    }

    /** "is not BLOWN": the vessels come before the cranes, and copper that is blown has become slag by then. */
    private static void blown() {
        HotAisle x = Rig.then(Rig.withCopperAlone(), 0, "4");
        x.blow(0, true);
        Rig.refused(x, 0, "draw");
        Rig.stuffOfVessel(x, 0, 26, 0, 0, 12);
        Check.same("ladle(0, 2)", x.ladle(0, 2), 0);
    }

    /** Six sulphur make no slag: when they are gone the vessel holds copper alone, and is blown. */
    private static void blownThoughItHoldsCopperAlone() {
        Refusal.ofOrder("with six sulphur, blown", () -> blownWithSulphur(12), 0, "draw");
        HotAisle x = blownWithSulphur(6);
        Rig.give(x, 0, "draw");
        Check.same("minutes(1)", x.minutes(1), 0);
        Check.same("crane(0, 4)", x.crane(0, 4), 1);
        Check.same("vessel(0, 1)", x.vessel(0, 1), 1);
        Rig.stuffOfVessel(x, 0, 22, 0, 0, 0);
        x.blow(0, false);
        Check.same("minutes(1), not blown any more", x.minutes(1), 1);
        Rig.stuffOfLadle(x, 0, 4, 22, 0, 0, 0);
        Rig.stuffOfVessel(x, 0, 0, 0, 0, 0);
    }

    /** One that is too cold to be blown is not blown any more when the crane comes. */
    private static void stoppedInThatMinute() {
        HotAisle x = overVessel(38);
        Check.that("it is too cold", x.vessel(0, 0) < 1000);
        x.blow(0, true);
        Rig.doneAtOnce("of one that is stopped", x, 0, "draw");
        Check.same("vessel(0, 7)", x.vessel(0, 7), 1);
        Rig.stuffOfLadle(x, 0, 4, 38, 0, 0, 0);
    }

    private static void noLadle() {
        Refusal.ofOrder("with none", () -> Rig.then(overVessel(9), 0, "3 set 4"), 0, "draw");
    }

    /** "with an EMPTY LADLE". */
    private static void ladleIsNotEmpty() {
        Refusal.ofOrder("with metal", () -> Rig.then(overVessel(110), 0, "draw"), 0, "draw");
        Refusal.ofOrder("with matte", () -> {
            HotAisle x = overVessel(9);
            Rig.feed(x, 1);
            return Rig.then(x, 0, "0 tap 4");
        }, 0, "draw");
        Refusal.ofOrder("with slag", () -> {
            HotAisle x = Rig.withFullVessel();
            x.blow(0, true);
            x.minutes(10);
            x.blow(0, false);
            return Rig.then(x, 0, "skim");
        }, 0, "draw");
    }

    /** PlaceTest has all the other places. */
    private static void noVessel() {
        Refusal.ofOrder("at 3", () -> Rig.then(Rig.withCopper(9), 0, "3"), 0, "draw");
        Refusal.ofOrder("at 5", () -> Rig.then(Rig.withCopper(9), 0, "5"), 0, "draw");
    }

    private static void theLastOne() {
        HotAisle x = overVessel(1);
        Rig.doneAtOnce("of one", x, 0, "draw");
        Rig.stuffOfLadle(x, 0, 4, 1, 0, 0, 0);
        Rig.stuffOfVessel(x, 0, 0, 0, 0, 0);
        Check.same("ladle(0, 2)", x.ladle(0, 2), 3);
    }

    /** "as much as may": 99, 100 and 101 with a ladle that has no skull. */
    private static void asMuchAsTheLadleMay() {
        draws(99, 99);
        draws(100, 100);
        draws(101, 100);
    }

    private static void draws(int copper, int comes) {
        HotAisle x = overVessel(copper);
        Rig.doneAtOnce("of " + copper, x, 0, "draw");
        Rig.stuffOfLadle(x, 0, 4, comes, 0, 0, 0);
        Rig.stuffOfVessel(x, 0, copper - comes, 0, 0, 0);
    }

    /** "at most 100 less its SKULL": 2 copper and 2 slag. */
    private static void lessItsSkull() {
        HotAisle x = Rig.cooled(Rig.withCopperAlone(), 0, 50, 50);
        Rig.stuffOfLadle(x, 0, 8, 2, 0, 0, 2);
        Rig.done(x, 0, "4 draw");
        Rig.stuffOfLadle(x, 0, 4, 96, 0, 0, 0);
        Rig.stuffOfVessel(x, 0, 42, 0, 0, 0);
    }

    private static void hotOrCold() {
        HotAisle x = overVessel(30);
        x.minutes(60);
        x.minutes(60);
        Check.same("vessel(0, 0)", x.vessel(0, 0), 0);
        Rig.doneAtOnce("of a cold one", x, 0, "draw");
        Rig.stuffOfLadle(x, 0, 4, 30, 0, 0, 0);
        x = Rig.withFullVessel();
        x.blow(0, true);
        Rig.done(x, 1, "6 take");
        x.minutes(10);
        Rig.stuffOfVessel(x, 0, 2, 0, 0, 73);
        x.blow(0, false);
        Rig.give(x, 1, "4");
        Rig.done(x, 0, "skim 3");
        Check.that("it is hot", x.vessel(0, 0) > 1250);
        Rig.doneAtOnce("of a hot one", x, 1, "draw");
        Rig.stuffOfLadle(x, 1, 4, 2, 0, 0, 0);
    }

    /** Crane 0 with ladle 0, empty, no skull, over vessel 0 with so much copper alone. */
    private static HotAisle overVessel(int copper) {
        HotAisle x = Rig.withCopper(Math.min(copper, 51));
        for (int missing = copper - 51; missing > 0; missing -= 50) {
            x.cold(0, Math.min(50, missing));
        }
        Rig.done(x, 0, "4");
        Rig.stuffOfVessel(x, 0, copper, 0, 0, 0);
        return x;
    }

    /** Vessel 0, blown, with 22 copper, 6 or 12 sulphur, no slag; crane 0 over it with ladle 0, empty. */
    private static HotAisle blownWithSulphur(int sulphur) {
        HotAisle x = Rig.poured(6, 0);
        x.blow(0, true);
        x.minutes(sulphur == 12 ? 3 : 4);
        x.blow(0, false);
        Rig.done(x, 0, "skim 2 pour 4");
        x.blow(0, true);
        Rig.stuffOfVessel(x, 0, 22, 0, sulphur, 0);
        return x;
    }

    /** Of 15 iron and 10 sulphur four minutes leave one sulphur. */
    private static HotAisle withOneSulphur() {
        HotAisle x = Rig.poured(5, 0);
        x.blow(0, true);
        x.minutes(4);
        x.blow(0, false);
        Rig.done(x, 0, "skim 2 pour 4");
        Rig.stuffOfVessel(x, 0, 18, 0, 1, 0);
        return x;
    }

    /** Vessel 0 with one slag alone under crane 0. */
    private static HotAisle oneSlag() {
        HotAisle x = Rig.withOneIron();
        x.blow(0, true);
        x.minutes(1);
        x.blow(0, false);
        Rig.stuffOfVessel(x, 0, 0, 0, 0, 1);
        return x;
    }
}
