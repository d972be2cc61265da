import java.util.List;

/** Short ways to bring an aisle where a test wants it. */
final class Rig {
    private static final List<String> WORDS = List.of("go", "take", "set", "tap", "pour", "skim", "draw", "clean");
    static final int GO = 0, TAKE = 1, SET = 2, TAP = 3, POUR = 4, SKIM = 5, DRAW = 6, CLEAN = 7;

    private Rig() {
    }

    /** Gives a crane orders: a number is a GO there, a word the order of that name. Answers how many it has. */
    static int give(HotAisle x, int crane, String orders) {
        int had = 0;
        for (String word : orders.split(" ")) {
            int what = WORDS.indexOf(word);
            had = what < 0 ? x.order(crane, GO, Integer.parseInt(word)) : x.order(crane, what, 0);
            Check.that("room for the order " + word, had > 0);
        }
        return had;
    }

    /** Gives a crane orders and waits until all are done. Answers the minutes. */
    static int done(HotAisle x, int crane, String orders) {
        give(x, crane, orders);
        int passed = x.until(200);
        Check.same("orders left of " + orders, x.crane(crane, 2), 0);
        return passed;
    }

    /** The same for an aisle that is just made. */
    static HotAisle then(HotAisle x, int crane, String orders) {
        done(x, crane, orders);
        return x;
    }

    /** Gives a crane an order and sees it done in the next minute. */
    static void doneAtOnce(String name, HotAisle x, int crane, String order) {
        int waits = x.crane(crane, 4);
        give(x, crane, order);
        Check.same(order + " " + name + ": done", x.minutes(1), 1);
        Check.same(order + " " + name + ": orders left", x.crane(crane, 2), 0);
        Check.same(order + " " + name + ": waits", x.crane(crane, 4), waits);
    }

    /** Gives a crane an order that can't be carried out, sees it wait two minutes, and drops it. */
    static void refused(HotAisle x, int crane, String order) {
        int waits = x.crane(crane, 4);
        give(x, crane, order);
        Check.same("minutes(2) with " + order, x.minutes(2), 0);
        Check.same("waits for " + order, x.crane(crane, 4), waits + 2);
        Check.same("drop of " + order, x.drop(crane), 1);
    }

    /** Feeds an aisle for some minutes (60 at most), and no more then. */
    static void feed(HotAisle x, int minutes) {
        x.fed(true);
        x.minutes(minutes);
        x.fed(false);
    }

    /**
     * What is fed in some minutes (11 at most), poured into vessel 0 or 1: 4 copper (less 2), 3 iron, 2 sulphur for
     * each, at 1150. Crane 0 is over it with ladle 0, empty, 2 copper in its skull; the furnace is empty.
     */
    static HotAisle poured(int minutes, int vessel) {
        HotAisle x = new HotAisle();
        feed(x, minutes);
        done(x, 0, "1 take 0 tap " + (4 * vessel + 4) + " pour");
        return x;
    }

    /** Vessel 0 at 1022 and vessel 1 at 1150, with 22 copper, 18 iron, 12 sulphur each; crane 0 is over vessel 1. */
    static HotAisle withTwoVessels() {
        HotAisle x = poured(6, 0);
        x.fed(true);
        done(x, 0, "0");
        x.minutes(1);
        x.fed(false);
        done(x, 0, "tap 8 pour");
        return x;
    }

    /** Vessel 0 with one iron at 1150, behind a first filling that was skimmed off; crane 0 is over it with ladle 0, empty. */
    static HotAisle withOneIron() {
        HotAisle x = poured(1, 0);
        x.blow(0, true);
        x.minutes(2);
        x.blow(0, false);
        done(x, 0, "skim 2 pour 0");
        feed(x, 11);
        done(x, 0, "tap 8 pour 0 tap");
        stuffOfLadle(x, 0, 4, 2, 1, 0, 0);
        done(x, 0, "4 pour");
        stuffOfVessel(x, 0, 0, 1, 0, 0);
        return x;
    }

    /** One copper is in the furnace, 43, 36, 24 are in vessel 0; crane 0 at 0 with ladle 0, empty, 4 copper in its skull. */
    static HotAisle withOneInTheFurnace() {
        HotAisle x = poured(1, 0);
        done(x, 0, "0");
        feed(x, 11);
        done(x, 0, "tap 4 pour 0");
        booked(x, 0, 1, 0, 0, 0);
        return x;
    }

    /** Crane 0, at the furnace, which is empty, pours what is fed in a minute into vessel 0 or 1, and comes back. */
    static void pourNine(HotAisle x, int vessel) {
        feed(x, 1);
        done(x, 0, "tap " + (4 * vessel + 4) + " pour 0");
    }

    /** Crane 0 at the furnace, which is empty, with ladle 0, empty, so much copper (even) in its skull; 3.5 times that in vessel 0. */
    static HotAisle withSkull(int copper) {
        HotAisle x = then(new HotAisle(), 0, "1 take 0");
        for (int i = 0; i < copper / 2; i++) {
            pourNine(x, 0);
        }
        stuffOfLadle(x, 0, 8, copper, 0, 0, 0);
        return x;
    }

    /** Crane 0 at 4 with ladle 0, empty, 15 copper and one iron in its skull; the furnace is empty. */
    static HotAisle withIronInTheSkull() {
        HotAisle x = withSkull(12);
        feed(x, 10);
        done(x, 0, "tap");
        stuffOfLadle(x, 0, 4, 39, 29, 20, 0);
        booked(x, 0, 1, 1, 0, 0);
        done(x, 0, "4 pour 0 tap 4 pour");
        stuffOfLadle(x, 0, 8, 15, 1, 0, 0);
        return x;
    }

    /** Vessel 0 with so much copper (1 to 51) alone; crane 0 at 1 with ladle 0, empty, no skull; the furnace is empty. */
    static HotAisle withCopper(int copper) {
        HotAisle x = poured(1, 0);
        x.blow(0, true);
        x.minutes(1);
        x.blow(0, false);
        done(x, 0, "skim 2 pour 1 clean");
        if (copper > 1) {
            x.cold(0, copper - 1);
        }
        stuffOfVessel(x, 0, copper, 0, 0, 0);
        return x;
    }

    /**
     * Vessel 0 with 42 copper, 33 iron, 23 sulphur at 1150; crane 0 is over it with ladle 0, empty, 2 copper in its
     * skull; 4, 3, 1 in the furnace.
     */
    static HotAisle withFullVessel() {
        HotAisle x = new HotAisle();
        feed(x, 12);
        done(x, 0, "1 take 0 tap 4 pour");
        return x;
    }

    /** Vessel 0 with 84, 66, 44 at 1109; crane 0 is over it with ladle 0, empty, 4 copper in its skull. */
    static HotAisle withTwoLadles() {
        HotAisle x = new HotAisle();
        feed(x, 22);
        done(x, 0, "1 take 0 tap 4 pour 0 tap");
        done(x, 0, "4 pour");
        stuffOfVessel(x, 0, 84, 66, 44, 0);
        Check.same("heat behind two ladles", x.vessel(0, 0), 1109);
        return x;
    }

    /** Vessel 0 with 38 copper alone, not blown; crane 0 at 1 with ladle 0, empty, 2 copper and 2 slag in its skull; 35 slag in the pot. */
    static HotAisle withCopperAlone() {
        HotAisle x = withFullVessel();
        x.blow(0, true);
        x.minutes(10);
        x.blow(0, false);
        done(x, 0, "skim 2 pour 1");
        return x;
    }

    /** The same, drawn: crane 1 at 4 with 38 copper in ladle 1. */
    static HotAisle withMetal() {
        HotAisle x = withCopperAlone();
        done(x, 1, "6 take 4 draw");
        return x;
    }

    /** All is under way: fed, blown, a low limit, eight orders and five, copper at the wheel, two states kept. */
    static HotAisle busy() {
        HotAisle x = withMetal();
        done(x, 1, "15 pour");
        x.keep();
        feed(x, 10);
        done(x, 0, "0 tap 4 pour");
        x.limit(2);
        x.blow(0, true);
        x.fed(true);
        x.minutes(2);
        x.keep();
        give(x, 0, "skim 2 pour 1 clean 6 5 set");
        give(x, 1, "13 set 14 take 15");
        return x;
    }

    /** The same, with copper added to a vessel. */
    static HotAisle cooled(HotAisle x, int vessel, int... amounts) {
        for (int k : amounts) {
            Check.that("room for " + k, x.cold(vessel, k) >= 0);
        }
        return x;
    }

    static void stuffOfVessel(HotAisle x, int vessel, int copper, int iron, int sulphur, int slag) {
        Check.same("copper in vessel " + vessel, x.vessel(vessel, 2), copper);
        Check.same("iron in vessel " + vessel, x.vessel(vessel, 3), iron);
        Check.same("sulphur in vessel " + vessel, x.vessel(vessel, 4), sulphur);
        Check.same("slag in vessel " + vessel, x.vessel(vessel, 5), slag);
    }

    /** What a ladle holds, with first = 4, or what its skull has, with first = 8. */
    static void stuffOfLadle(HotAisle x, int ladle, int first, int copper, int iron, int sulphur, int slag) {
        Check.same("copper, ladle(" + ladle + ", " + first + ")", x.ladle(ladle, first), copper);
        Check.same("iron, ladle(" + ladle + ", " + (first + 1) + ")", x.ladle(ladle, first + 1), iron);
        Check.same("sulphur, ladle(" + ladle + ", " + (first + 2) + ")", x.ladle(ladle, first + 2), sulphur);
        Check.same("slag, ladle(" + ladle + ", " + (first + 3) + ")", x.ladle(ladle, first + 3), slag);
    }

    static void booked(HotAisle x, int at, int copper, int iron, int sulphur, int slag) {
        Check.same("book(" + at + ", 1)", x.book(at, 1), copper);
        Check.same("book(" + at + ", 2)", x.book(at, 2), iron);
        Check.same("book(" + at + ", 3)", x.book(at, 3), sulphur);
        Check.same("book(" + at + ", 4)", x.book(at, 4), slag);
    }

    /** Where answers() has the waits of a crane. */
    static int indexOfWaits(int crane) {
        return crane * 5 + 4;
    }

    /** Every answer that an aisle gives without a change: 132 calls. */
    static int[] answers(HotAisle x) {
        int[] all = new int[132];
        int n = 0;
        for (int crane = 0; crane < 2; crane++) {
            for (int what = 0; what < 5; what++) {
                all[n++] = x.crane(crane, what);
            }
        }
        for (int ladle = 0; ladle < 4; ladle++) {
            for (int what = 0; what < 12; what++) {
                if (what != 3) {
                    all[n++] = x.ladle(ladle, what);
                }
            }
        }
        for (int vessel = 0; vessel < 3; vessel++) {
            for (int what = 0; what < 8; what++) {
                all[n++] = x.vessel(vessel, what);
            }
        }
        for (int at = 0; at < 11; at++) {
            for (int s = 1; s < 5; s++) {
                all[n++] = x.book(at, s);
            }
        }
        for (int what = 0; what < 10; what++) {
            all[n++] = x.count(what);
        }
        return all;
    }
}
