/** The second step of a minute: what the 6 PARTS of a blown vessel do (promises 4, 8, 12, 13). */
public final class PartsTest {
    public static void main(String[] args) {
        sixIron();
        moreThanSixIron();
        ironThenSulphur();
        sulphurThenCopper();
        allThree();
        sixSulphur();
        sixCopper();
        fiveCopper();
        sevenCopper();
        oneIron();
        slagAlone();
        nothingAtAll();
        notBlown();
        Check.end();
    }

    /** "6 PARTS": six iron are used up in one of them each, and nothing else is touched. */
    private static void sixIron() {
        HotAisle x = blown(Rig.poured(2, 0), 1);
        Rig.stuffOfVessel(x, 0, 6, 0, 4, 6);
        Check.same("vessel(0, 0)", x.vessel(0, 0), 1150 + 24 - 8);
        Rig.booked(x, 9, 0, 6, 0, 0);
        Rig.booked(x, 10, 0, 0, 0, 6);
        Check.same("count(2)", x.count(2), 0);
    }

    /** "if there is IRON: one IRON becomes SLAG, HEAT is 4 more": nine iron leave three. */
    private static void moreThanSixIron() {
        HotAisle x = blown(Rig.poured(3, 0), 1);
        Rig.stuffOfVessel(x, 0, 10, 3, 6, 6);
        Check.same("vessel(0, 0)", x.vessel(0, 0), 1150 + 24 - 8);
    }

    /** "else, if there is SULPHUR: one SULPHUR becomes GAS, HEAT is 3 more". */
    private static void ironThenSulphur() {
        HotAisle x = blown(Rig.poured(3, 0), 2);
        Rig.stuffOfVessel(x, 0, 10, 0, 3, 9);
        Check.same("vessel(0, 0)", x.vessel(0, 0), 1166 + 12 + 9 - 8);
        Check.same("count(2)", x.count(2), 3);
        Rig.booked(x, 9, 0, 9, 3, 0);
        Rig.booked(x, 10, 0, 0, 0, 9);
    }

    /** "else, if there is COPPER: one COPPER becomes SLAG, HEAT is 2 more". */
    private static void sulphurThenCopper() {
        HotAisle x = blown(Rig.poured(3, 0), 3);
        Rig.stuffOfVessel(x, 0, 7, 0, 0, 12);
        Check.same("vessel(0, 0)", x.vessel(0, 0), 1179 + 9 + 6 - 8);
        Check.same("count(2)", x.count(2), 3);
        Rig.booked(x, 9, 3, 9, 6, 0);
        Rig.booked(x, 10, 0, 0, 0, 12);
    }

    /** Three iron, two sulphur and one copper in one minute. */
    private static void allThree() {
        HotAisle x = blown(Rig.poured(1, 0), 1);
        Rig.stuffOfVessel(x, 0, 1, 0, 0, 4);
        Check.same("vessel(0, 0)", x.vessel(0, 0), 1150 + 12 + 6 + 2 - 8);
        Check.same("count(2)", x.count(2), 2);
        Check.same("count(1)", x.count(1), 2);
    }

    /** Twelve sulphur are two minutes' parts; no copper is touched in the second of them. */
    private static void sixSulphur() {
        HotAisle x = blown(Rig.poured(6, 0), 3);
        Rig.stuffOfVessel(x, 0, 22, 0, 12, 18);
        int heat = x.vessel(0, 0);
        x.minutes(1);
        Rig.stuffOfVessel(x, 0, 22, 0, 6, 18);
        Check.same("vessel(0, 0)", x.vessel(0, 0), heat + 18 - 8);
        x.minutes(1);
        Rig.stuffOfVessel(x, 0, 22, 0, 0, 18);
        Check.same("vessel(0, 0)", x.vessel(0, 0), heat + 36 - 16);
        Check.same("count(2)", x.count(2), 6);
        x.minutes(1);
        Rig.stuffOfVessel(x, 0, 16, 0, 0, 24);
        Check.same("vessel(0, 0)", x.vessel(0, 0), heat + 36 + 12 - 24);
        Check.same("count(2)", x.count(2), 0);
    }

    /** 75 units at 1279 and 4 more are 1214.2, cut; six minutes leave six copper of 42. */
    private static void sixCopper() {
        HotAisle x = lastCopper(4, 6);
        Check.same("vessel(0, 0)", x.vessel(0, 0), 1214 + 6 * 4);
        x.minutes(1);
        Rig.stuffOfVessel(x, 0, 0, 0, 0, 79);
        Check.same("vessel(0, 0)", x.vessel(0, 0), 1238 + 12 - 8);
    }

    /** "else nothing": the sixth part finds nothing. */
    private static void fiveCopper() {
        HotAisle x = lastCopper(3, 5);
        Check.same("vessel(0, 0)", x.vessel(0, 0), 1229 + 6 * 4);
        x.minutes(1);
        Rig.stuffOfVessel(x, 0, 0, 0, 0, 78);
        Check.same("vessel(0, 0)", x.vessel(0, 0), 1253 + 10 - 8);
        Rig.booked(x, 9, 4 + 41, 33, 23, 0);
        Rig.booked(x, 10, 0, 0, 0, 78);
    }

    private static void sevenCopper() {
        HotAisle x = lastCopper(5, 7);
        x.minutes(1);
        Rig.stuffOfVessel(x, 0, 1, 0, 0, 79);
        int heat = x.vessel(0, 0);
        x.minutes(1);
        Rig.stuffOfVessel(x, 0, 0, 0, 0, 80);
        Check.same("vessel(0, 0)", x.vessel(0, 0), heat + 2 - 8);
    }

    /** Five parts find nothing behind one iron. */
    private static void oneIron() {
        HotAisle x = Rig.withOneIron();
        int heat = x.vessel(0, 0);
        blown(x, 1);
        Rig.stuffOfVessel(x, 0, 0, 0, 0, 1);
        Check.same("vessel(0, 0)", x.vessel(0, 0), heat + 4 - 8);
    }

    /** Slag alone grows cold, and stays blown. */
    private static void slagAlone() {
        HotAisle x = blown(Rig.poured(1, 0), 2);
        Rig.stuffOfVessel(x, 0, 0, 0, 0, 5);
        int heat = x.vessel(0, 0);
        x.minutes(3);
        Rig.stuffOfVessel(x, 0, 0, 0, 0, 5);
        Check.same("vessel(0, 0)", x.vessel(0, 0), heat - 24);
        Check.same("vessel(0, 1)", x.vessel(0, 1), 1);
        Rig.booked(x, 9, 2, 3, 2, 0);
        Rig.booked(x, 10, 0, 0, 0, 5);
    }

    private static void nothingAtAll() {
        HotAisle x = blown(Rig.poured(1, 0), 2);
        Rig.done(x, 0, "skim");
        Rig.stuffOfVessel(x, 0, 0, 0, 0, 0);
        int heat = x.vessel(0, 0);
        x.minutes(7);
        Rig.stuffOfVessel(x, 0, 0, 0, 0, 0);
        Check.same("vessel(0, 0)", x.vessel(0, 0), heat);
        Check.same("vessel(0, 1)", x.vessel(0, 1), 1);
        Check.same("vessel(0, 6)", x.vessel(0, 6), 0);
        Check.same("vessel(0, 7)", x.vessel(0, 7), 0);
        Check.same("count(1)", x.count(1), 2);
    }

    /** "one that is BLOWN": in one that is not nothing becomes another one. */
    private static void notBlown() {
        HotAisle x = Rig.withFullVessel();
        x.minutes(5);
        Rig.stuffOfVessel(x, 0, 42, 33, 23, 0);
        Check.same("vessel(0, 0)", x.vessel(0, 0), 1150 - 40);
        Rig.booked(x, 9, 0, 0, 0, 0);
        Rig.booked(x, 10, 0, 0, 0, 0);
    }

    private static HotAisle blown(HotAisle x, int minutes) {
        x.blow(0, true);
        x.minutes(minutes);
        return x;
    }

    /** Vessel 0 blown from 42, 33, 23 to 38 copper and 37 slag at 1279, some copper added, and six minutes more. */
    private static HotAisle lastCopper(int added, int left) {
        HotAisle x = blown(Rig.withFullVessel(), 10);
        Rig.stuffOfVessel(x, 0, 38, 0, 0, 37);
        Check.same("vessel(0, 0)", x.vessel(0, 0), 1150 + 5 * 16 + 13 + 3 * 10 + 6);
        x.cold(0, added);
        x.minutes(6);
        Rig.stuffOfVessel(x, 0, left, 0, 0, 73);
        return x;
    }
}
