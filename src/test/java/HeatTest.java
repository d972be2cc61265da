/** The second step of a minute: when a vessel is STOPPED, and how it grows cold (promises 4, 8, 12). */
public final class HeatTest {
    public static void main(String[] args) {
        stopsAt1301();
        goesOnAt1300();
        stopsAt999();
        goesOnAt1000();
        stopsOnceForEachBlow();
        stopsThoughItHoldsNothing();
        notBlownIsNotStopped();
        otherVesselsGoOn();
        eightLess();
        notBelowZero();
        oneUnitGrowsColdToo();
        nothingDoesNotGrowCold();
        pouredBehindTheCooling();
        Check.end();
    }

    /** "HEAT .. above 1300: is not BLOWN any more (STOPPED is counted)": none of its parts is done, but it grows cold. */
    private static void stopsAt1301() {
        HotAisle x = Rig.withTwoLadles();
        x.minutes(3);
        x.blow(0, true);
        x.minutes(15);
        Check.same("heat", x.vessel(0, 0), 1301);
        Check.same("blown, till the next minute", x.vessel(0, 1), 1);
        Check.same("stopped, till the next minute", x.vessel(0, 7), 0);
        Rig.stuffOfVessel(x, 0, 84, 0, 20, 66);
        x.minutes(1);
        Check.same("blown", x.vessel(0, 1), 0);
        Check.same("stopped", x.vessel(0, 7), 1);
        Check.same("held", x.vessel(0, 6), 0);
        Check.same("heat", x.vessel(0, 0), 1293);
        Rig.stuffOfVessel(x, 0, 84, 0, 20, 66);
        Check.same("count(2)", x.count(2), 0);
    }

    private static void goesOnAt1300() {
        HotAisle x = Rig.withTwoLadles();
        Check.same("cold(0, 3)", x.cold(0, 3), 1092);
        x.minutes(1);
        x.blow(0, true);
        x.minutes(15);
        Check.same("heat", x.vessel(0, 0), 1300);
        x.minutes(1);
        Check.same("heat, still blown", x.vessel(0, 0), 1310);
        Check.same("blown", x.vessel(0, 1), 1);
        Check.same("stopped", x.vessel(0, 7), 0);
        Rig.stuffOfVessel(x, 0, 87, 0, 14, 66);
    }

    /** "HEAT below 1000". */
    private static void stopsAt999() {
        HotAisle x = Rig.cooled(Rig.withFullVessel(), 0, 2);
        Check.same("heat", x.vessel(0, 0), 1127);
        x.minutes(16);
        Check.same("heat", x.vessel(0, 0), 999);
        Check.same("blow(0, true)", x.blow(0, true), 0);
        x.minutes(1);
        Check.same("blown", x.vessel(0, 1), 0);
        Check.same("stopped", x.vessel(0, 7), 1);
        Check.same("heat", x.vessel(0, 0), 991);
        Rig.stuffOfVessel(x, 0, 44, 33, 23, 0);
    }

    private static void goesOnAt1000() {
        HotAisle x = Rig.cooled(Rig.withFullVessel(), 0, 4);
        Check.same("heat", x.vessel(0, 0), 1104);
        x.minutes(13);
        Check.same("heat", x.vessel(0, 0), 1000);
        x.blow(0, true);
        x.minutes(1);
        Check.same("heat, blown", x.vessel(0, 0), 1016);
        Check.same("blown", x.vessel(0, 1), 1);
        Check.same("stopped", x.vessel(0, 7), 0);
    }

    /** "is not BLOWN any more": it is counted once, till it is BLOWN again. */
    private static void stopsOnceForEachBlow() {
        HotAisle x = Rig.withCopper(50);
        x.blow(0, true);
        x.minutes(5);
        Check.same("stopped", x.vessel(0, 7), 1);
        Check.same("blow(0, true)", x.blow(0, true), 0);
        x.minutes(5);
        Check.same("stopped again", x.vessel(0, 7), 2);
        Check.same("blow(0, false)", x.blow(0, false), 0);
        x = Rig.withTwoLadles();
        x.minutes(3);
        x.blow(0, true);
        x.minutes(16);
        Check.same("heat", x.vessel(0, 0), 1293);
        x.blow(0, true);
        x.minutes(1);
        Check.same("heat, blown again", x.vessel(0, 0), 1293 + 18 - 8);
        Check.same("stopped", x.vessel(0, 7), 1);
    }

    /** Its five slag are skimmed in the minute in which it falls from 1004 to 996. */
    private static void stopsThoughItHoldsNothing() {
        HotAisle x = Rig.poured(1, 0);
        x.blow(0, true);
        x.minutes(2);
        Check.same("heat", x.vessel(0, 0), 1150 + 20 - 8 + 2 - 8);
        x.minutes(19);
        Check.same("heat", x.vessel(0, 0), 1004);
        Rig.done(x, 0, "skim");
        Check.same("heat", x.vessel(0, 0), 996);
        Check.same("blown", x.vessel(0, 1), 1);
        x.minutes(1);
        Check.same("heat", x.vessel(0, 0), 996);
        Check.same("blown", x.vessel(0, 1), 0);
        Check.same("stopped", x.vessel(0, 7), 1);
    }

    /** "one that is BLOWN". */
    private static void notBlownIsNotStopped() {
        HotAisle x = Rig.withCopper(50);
        x.minutes(5);
        Check.that("it is cold", x.vessel(0, 0) < 1000);
        Check.same("stopped", x.vessel(0, 7), 0);
    }

    /** Vessel 0 is too cold, and vessel 1 is not. */
    private static void otherVesselsGoOn() {
        HotAisle x = Rig.withTwoVessels();
        x.cold(0, 50);
        x.blow(0, true);
        x.blow(1, true);
        x.minutes(1);
        Check.same("stopped", x.vessel(0, 7), 1);
        Check.same("stopped, of the other", x.vessel(1, 7), 0);
        Check.same("blown, of the other", x.vessel(1, 1), 1);
        Rig.stuffOfVessel(x, 1, 22, 12, 12, 6);
    }

    /** "Then each VESSEL that holds anything, BLOWN or not: HEAT is 8 less". */
    private static void eightLess() {
        HotAisle x = Rig.withTwoVessels();
        int first = x.vessel(0, 0);
        int second = x.vessel(1, 0);
        x.blow(1, true);
        x.minutes(1);
        Check.same("vessel(0, 0), not blown", x.vessel(0, 0), first - 8);
        Check.same("vessel(1, 0), blown", x.vessel(1, 0), second + 24 - 8);
        Check.same("vessel(2, 0), empty", x.vessel(2, 0), 1150);
    }

    /** "not below 0": 1073 are 134 times 8 and 1, 1104 are 138 times 8, 1127 are 140 times 8 and 7. */
    private static void notBelowZero() {
        cools(7, 1073, 133, new int[] {9, 1, 0, 0});
        cools(4, 1104, 136, new int[] {16, 8, 0, 0});
        cools(2, 1127, 139, new int[] {15, 7, 0, 0});
    }

    private static void cools(int added, int heat, int minutes, int[] due) {
        HotAisle x = Rig.withFullVessel();
        Check.same("cold(0, " + added + ")", x.cold(0, added), heat);
        for (int left = minutes; left > 0; left -= 60) {
            x.minutes(Math.min(left, 60));
        }
        for (int next : due) {
            Check.same("heat", x.vessel(0, 0), next);
            x.minutes(1);
        }
        // A heat of 0 is a heat too: it mixes, and it can't be blown on.
        Check.same("cold(0, 1)", x.cold(0, 1), 0);
        x.blow(0, true);
        x.minutes(1);
        Check.same("stopped", x.vessel(0, 7), 1);
        Check.same("heat", x.vessel(0, 0), 0);
    }

    private static void oneUnitGrowsColdToo() {
        HotAisle x = Rig.withCopper(1);
        int heat = x.vessel(0, 0);
        x.minutes(1);
        Check.same("heat of one copper", x.vessel(0, 0), heat - 8);
        x = Rig.withOneIron();
        x.minutes(1);
        Check.same("heat of one iron", x.vessel(0, 0), 1150 - 8);
    }

    /** "that holds anything": one that has lost its last unit keeps its HEAT. */
    private static void nothingDoesNotGrowCold() {
        HotAisle x = Rig.withCopper(1);
        Rig.done(x, 0, "4 draw");
        Rig.stuffOfVessel(x, 0, 0, 0, 0, 0);
        int heat = x.vessel(0, 0);
        Check.that("it is not the first heat", heat != 1150);
        x.minutes(9);
        Check.same("heat of nothing", x.vessel(0, 0), heat);
    }

    /** The cranes come behind the vessels: what is poured in a minute grows cold from the next one on. */
    private static void pouredBehindTheCooling() {
        HotAisle x = Rig.poured(1, 0);
        Check.same("heat", x.vessel(0, 0), 1150);
        x.minutes(1);
        Check.same("heat", x.vessel(0, 0), 1142);
    }
}
