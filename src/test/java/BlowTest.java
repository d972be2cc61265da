/** Promise 4: blow, and what a minute does with a vessel that is blown. */
public final class BlowTest {
    public static void main(String[] args) {
        wrongAndEmpty();
        answersWhatWas();
        partsOneBehindTheOther();
        stopsAboveMostHeat();
        goesOnAtMostHeat();
        stopsBelowLeastHeat();
        goesOnAtLeastHeat();
        gasOfVesselsAhead();
        blownWithoutStuff();
        Check.end();
    }

    private static void wrongAndEmpty() {
        HotAisle x = new HotAisle();
        int[] bad = {-1, 3, 4, Integer.MIN_VALUE, Integer.MAX_VALUE};
        for (int vessel : bad) {
            Check.same("blow(" + vessel + ", true)", x.blow(vessel, true), HotAisle.BAD);
            Check.same("blow(" + vessel + ", false)", x.blow(vessel, false), HotAisle.BAD);
        }
        for (int vessel = 0; vessel < 3; vessel++) {
            Check.same("blow of an empty one", x.blow(vessel, true), HotAisle.NO);
            Check.same("vessel(.., 1)", x.vessel(vessel, 1), 0);
            Check.same("blow(.., false) of an empty one", x.blow(vessel, false), 0);
        }
    }

    private static void answersWhatWas() {
        HotAisle x = Rig.withFullVessel();
        Check.same("blow(0, true)", x.blow(0, true), 0);
        Check.same("vessel(0, 1)", x.vessel(0, 1), 1);
        Check.same("blow(0, true)", x.blow(0, true), 1);
        Check.same("blow(0, false)", x.blow(0, false), 1);
        Check.same("vessel(0, 1)", x.vessel(0, 1), 0);
        Check.same("blow(0, false)", x.blow(0, false), 0);
        Check.same("blow(1, true)", x.blow(1, true), HotAisle.NO);
        Check.same("vessel(0, 7)", x.vessel(0, 7), 0);
    }

    /** 42, 33, 23 at 1150: iron is burnt first, then sulphur, then copper; a minute may have two of them. */
    private static void partsOneBehindTheOther() {
        HotAisle x = Rig.withFullVessel();
        x.minutes(1);
        Check.same("heat, not blown", x.vessel(0, 0), 1142);
        x.minutes(1);
        x.blow(0, true);
        x.minutes(1);
        Check.same("heat behind six iron", x.vessel(0, 0), 1134 + 24 - 8);
        Rig.stuffOfVessel(x, 0, 42, 27, 23, 6);
        x.minutes(4);
        Rig.stuffOfVessel(x, 0, 42, 3, 23, 30);
        x.minutes(1);
        Check.same("heat behind three iron, three sulphur", x.vessel(0, 0), 1134 + 80 + 12 + 9 - 8);
        Rig.stuffOfVessel(x, 0, 42, 0, 20, 33);
        Check.same("count(2)", x.count(2), 3);
        x.minutes(3);
        Rig.stuffOfVessel(x, 0, 42, 0, 2, 33);
        x.minutes(1);
        Check.same("heat behind two sulphur, four copper", x.vessel(0, 0), 1227 + 30 + 6 + 8 - 8);
        Rig.stuffOfVessel(x, 0, 38, 0, 0, 37);
        Check.same("count(2)", x.count(2), 2);
        x.minutes(1);
        Check.same("heat behind six copper", x.vessel(0, 0), 1263 + 12 - 8);
        Rig.stuffOfVessel(x, 0, 32, 0, 0, 43);
        Check.same("count(1)", x.count(1), 23);
        Check.same("count(2)", x.count(2), 0);
        Rig.booked(x, 9, 10, 33, 23, 0);
        Rig.booked(x, 10, 0, 0, 0, 43);
        x.minutes(6);
        Rig.stuffOfVessel(x, 0, 0, 0, 0, 75);
        Check.same("heat at last", x.vessel(0, 0), 1267 + 20 + 4 - 8);
        x.minutes(1);
        Check.same("heat with nothing to burn", x.vessel(0, 0), 1275);
        Check.same("still blown", x.vessel(0, 1), 1);
    }

    private static void stopsAboveMostHeat() {
        HotAisle x = twoLadlesPoured();
        Check.same("heat behind two ladles", x.vessel(0, 0), 1109);
        x.minutes(3);
        x.blow(0, true);
        x.minutes(15);
        Check.same("heat", x.vessel(0, 0), 1301);
        Check.same("still blown", x.vessel(0, 1), 1);
        Check.same("stopped", x.vessel(0, 7), 0);
        x.minutes(1);
        Check.same("blown", x.vessel(0, 1), 0);
        Check.same("stopped", x.vessel(0, 7), 1);
        Check.same("heat", x.vessel(0, 0), 1293);
        Rig.stuffOfVessel(x, 0, 84, 0, 20, 66);
        Check.same("count(2)", x.count(2), 0);
        x.minutes(1);
        Check.same("stopped once", x.vessel(0, 7), 1);
        x.blow(0, true);
        x.minutes(1);
        Check.same("heat, blown again", x.vessel(0, 0), 1285 + 18 - 8);
    }

    private static void goesOnAtMostHeat() {
        HotAisle x = twoLadlesPoured();
        Check.same("cold(0, 3)", x.cold(0, 3), 1092);
        x.minutes(1);
        x.blow(0, true);
        x.minutes(15);
        Check.same("heat", x.vessel(0, 0), 1300);
        x.minutes(1);
        Check.same("heat, still blown", x.vessel(0, 0), 1310);
        Check.same("stopped", x.vessel(0, 7), 0);
        x.minutes(1);
        Check.same("stopped", x.vessel(0, 7), 1);
    }

    private static HotAisle twoLadlesPoured() {
        HotAisle x = new HotAisle();
        Rig.feed(x, 22);
        Rig.done(x, 0, "1 take 0 tap 4 pour 0 tap");
        Rig.done(x, 0, "4 pour");
        Rig.stuffOfVessel(x, 0, 84, 66, 44, 0);
        return x;
    }

    private static void stopsBelowLeastHeat() {
        HotAisle x = Rig.withFullVessel();
        Check.same("cold(0, 2)", x.cold(0, 2), 1127);
        x.minutes(16);
        Check.same("heat", x.vessel(0, 0), 999);
        Check.same("blow(0, true)", x.blow(0, true), 0);
        x.minutes(1);
        Check.same("blown", x.vessel(0, 1), 0);
        Check.same("stopped", x.vessel(0, 7), 1);
        Check.same("heat", x.vessel(0, 0), 991);
        Rig.stuffOfVessel(x, 0, 44, 33, 23, 0);
        x.blow(0, true);
        x.minutes(5);
        Check.same("stopped again", x.vessel(0, 7), 2);
        x.minutes(60);
        x.minutes(58);
        Check.same("heat at last", x.vessel(0, 0), 7);
        x.minutes(1);
        Check.same("heat not below 0", x.vessel(0, 0), 0);
        x.minutes(1);
        Check.same("heat not below 0", x.vessel(0, 0), 0);
    }

    private static void goesOnAtLeastHeat() {
        HotAisle x = Rig.withFullVessel();
        Check.same("cold(0, 4)", x.cold(0, 4), 1104);
        x.minutes(13);
        Check.same("heat", x.vessel(0, 0), 1000);
        x.blow(0, true);
        x.minutes(1);
        Check.same("heat, blown", x.vessel(0, 0), 1016);
        Check.same("stopped", x.vessel(0, 7), 0);
    }

    /** Vessels 0 and 1, blown, with 20 and 19 sulphur and no iron. */
    private static HotAisle twoVesselsBlown() {
        HotAisle x = new HotAisle();
        Rig.feed(x, 24);
        Rig.done(x, 0, "1 take 0 tap 4 pour 0 tap");
        Rig.done(x, 0, "8 pour");
        Check.same("vessel(0, 0)", x.vessel(0, 0), 1150 - 14 * 8);
        Check.same("vessel(1, 0)", x.vessel(1, 0), 1150);
        x.limit(30);
        x.blow(0, true);
        x.blow(1, true);
        x.minutes(6);
        Rig.stuffOfVessel(x, 0, 42, 0, 20, 33);
        Rig.stuffOfVessel(x, 1, 41, 0, 19, 32);
        return x;
    }

    private static void gasOfVesselsAhead() {
        HotAisle x = twoVesselsBlown();
        Check.same("count(2) of two vessels", x.count(2), 3 + 4);
        x.limit(12);
        x.minutes(1);
        Check.same("held at the limit", x.vessel(1, 6), 0);
        Check.same("count(2) of two vessels", x.count(2), 12);
        x.limit(11);
        x.minutes(1);
        Check.same("held of the first", x.vessel(0, 6), 0);
        Check.same("held of the second", x.vessel(1, 6), 1);
        Check.same("count(2)", x.count(2), 6);
        Rig.stuffOfVessel(x, 0, 42, 0, 8, 33);
        Rig.stuffOfVessel(x, 1, 41, 0, 13, 32);
        x.limit(5);
        x.minutes(1);
        Check.same("held of the first", x.vessel(0, 6), 1);
        Check.same("held of the second", x.vessel(1, 6), 2);
        Check.same("count(2)", x.count(2), 0);
        x.limit(8);
        x.minutes(1);
        Check.same("held of the second", x.vessel(1, 6), 3);
        x.minutes(1);
        Check.same("held of the second", x.vessel(1, 6), 3);
        Check.same("count(2)", x.count(2), 2 + 6);
        Rig.stuffOfVessel(x, 0, 38, 0, 0, 37);
        Rig.stuffOfVessel(x, 1, 41, 0, 7, 32);
        gasOfOneHeldAhead();
    }

    /** The first would give 6 and is held; the second's 1 is within the limit of 5 all the same. */
    private static void gasOfOneHeldAhead() {
        HotAisle x = twoVesselsBlown();
        x.blow(0, false);
        x.minutes(3);
        Rig.stuffOfVessel(x, 1, 41, 0, 1, 32);
        x.blow(0, true);
        x.limit(5);
        x.minutes(1);
        Check.same("held of the first", x.vessel(0, 6), 1);
        Check.same("held of the second", x.vessel(1, 6), 0);
        Check.same("count(2)", x.count(2), 1);
        Rig.stuffOfVessel(x, 0, 42, 0, 20, 33);
        Rig.stuffOfVessel(x, 1, 36, 0, 0, 37);
    }

    /** A vessel may lose all that it holds to a ladle while it is blown. */
    private static void blownWithoutStuff() {
        HotAisle x = new HotAisle();
        Rig.feed(x, 1);
        Rig.done(x, 0, "1 take 0 tap 4 pour");
        Rig.stuffOfVessel(x, 0, 2, 3, 2, 0);
        x.blow(0, true);
        x.minutes(1);
        Rig.stuffOfVessel(x, 0, 1, 0, 0, 4);
        Check.same("heat", x.vessel(0, 0), 1150 + 12 + 6 + 2 - 8);
        x.minutes(1);
        Rig.stuffOfVessel(x, 0, 0, 0, 0, 5);
        Rig.done(x, 0, "skim");
        Rig.stuffOfVessel(x, 0, 0, 0, 0, 0);
        int heat = x.vessel(0, 0);
        x.minutes(7);
        Check.same("heat with nothing in it", x.vessel(0, 0), heat);
        Check.same("still blown", x.vessel(0, 1), 1);
        Check.same("blow(0, true) with nothing in it", x.blow(0, true), HotAisle.NO);
        Check.same("still blown", x.vessel(0, 1), 1);
        Check.same("blow(0, false)", x.blow(0, false), 1);
    }
}
