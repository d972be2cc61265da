/**
 * "At 0 is THE FURNACE, at 2 THE POT, at 4, 8, 12 VESSELS 0, 1, 2, at 15 THE WHEEL; the others are FLOOR": each
 * ORDER but GO is told to each crane, at each PLACE that it can come to, with no ladle and with one of each sort.
 */
public final class PlaceTest {
    private static final int NONE = 0, EMPTY = 1, SKULL = 2, MATTE = 3, SLAG = 4, METAL = 5;
    private static final String[] LADLES = {"no ladle", "an empty one", "a skull", "matte", "slag", "metal"};
    private static final String[] ORDERS = {"take", "set", "tap", "pour", "skim", "draw", "clean"};

    public static void main(String[] args) {
        for (int ladle = NONE; ladle <= METAL; ladle++) {
            for (int place = 0; place < 15; place++) {
                all(0, ladle, place);
            }
            for (int place = 1; place < 16; place++) {
                all(1, ladle, place);
            }
        }
        Check.end();
    }

    private static void all(int crane, int ladle, int place) {
        for (String order : ORDERS) {
            String name = "with " + LADLES[ladle] + ", crane " + crane + " at " + place;
            if (canBeDone(order, ladle, place)) {
                Rig.doneAtOnce(name, at(crane, ladle, place), crane, order);
            } else {
                Refusal.ofOrder(name, () -> at(crane, ladle, place), crane, order);
            }
        }
    }

    /** Vessel 0 holds copper alone, vessel 1 slag and more, vessel 2 nothing; there is matte in the furnace. */
    private static boolean canBeDone(String order, int ladle, int place) {
        boolean isVessel = place == 4 || place == 8 || place == 12;
        boolean isFloor = !isVessel && place != 0 && place != 2 && place != 15;
        // Ladle 0, at 1 first, is the one that a crane carries, if it carries one.
        boolean oneStands = place == 6 || place == 10 || place == 14 || place == 1 && ladle == NONE;
        boolean isEmpty = ladle == EMPTY || ladle == SKULL;
        switch (order) {
            case "take": return ladle == NONE && oneStands;
            case "set": return ladle != NONE && isFloor && !oneStands;
            case "tap": return isEmpty && place == 0;
            case "pour": return ladle == MATTE && isVessel || ladle == SLAG && (place == 0 || place == 2) || ladle == METAL && place == 15;
            case "skim": return (isEmpty || ladle == SLAG) && place == 8;
            case "draw": return isEmpty && place == 4;
            default: return ladle == SKULL && (place == 1 || place == 14);
        }
    }

    private static HotAisle at(int crane, int ladle, int place) {
        HotAisle x = vessels();
        load(x, ladle);
        if (crane == 0) {
            Rig.done(x, 1, "15");
            return Rig.then(x, 0, String.valueOf(place));
        }
        Rig.done(x, 0, ladle == NONE ? "0" : "3 set 0");
        return Rig.then(x, 1, (ladle == NONE ? "" : "3 take ") + place);
    }

    /** Crane 0 at 1 with ladle 0, empty, no skull; vessel 0 with 110 copper, vessel 1 with a copper and four slag. */
    private static HotAisle vessels() {
        HotAisle x = Rig.poured(1, 0);
        x.fed(true);
        x.minutes(1);
        x.fed(false);
        Rig.done(x, 0, "0 tap 8 pour");
        x.blow(0, true);
        x.blow(1, true);
        x.minutes(1);
        x.blow(0, false);
        x.blow(1, false);
        Rig.done(x, 0, "4 skim 2 pour 1 clean");
        Rig.cooled(x, 0, 50, 50, 9);
        Rig.stuffOfVessel(x, 0, 110, 0, 0, 0);
        Rig.stuffOfVessel(x, 1, 1, 0, 0, 4);
        Rig.feed(x, 1);
        return x;
    }

    private static void load(HotAisle x, int ladle) {
        switch (ladle) {
            case NONE: Rig.done(x, 0, "set"); break;
            case SKULL: Rig.done(x, 0, "0 tap 8 pour"); break;
            case MATTE: Rig.done(x, 0, "0 tap"); break;
            case SLAG: Rig.done(x, 0, "8 skim"); break;
            case METAL: Rig.done(x, 0, "4 draw"); break;
            default: break;
        }
        if (ladle == SLAG) {
            x.blow(1, true);
            x.minutes(1);
            x.blow(1, false);
        }
        Check.same("ladle(0, 2)", x.ladle(0, 2), Math.max(0, ladle - SKULL));
        Check.that("there is slag", x.vessel(1, 5) > 0);
        Rig.feed(x, 1);
        Check.that("there is matte", x.book(0, 1) > 0);
    }
}
