/** ORDER 3, TAP. */
public final class TapTest {
    public static void main(String[] args) {
        emptyFurnace();
        noLadle();
        ladleIsNotEmpty();
        notAtTheFurnace();
        oneUnit();
        allThatThereIs();
        asMuchAsTheLadleMay();
        oneMoreThanTheLadleMay();
        lessItsSkull();
        skullOfOne();
        sharesAreCut();
        sulphurLacks();
        Check.end();
    }

    /** "(n above 0": nothing comes from nothing. */
    private static void emptyFurnace() {
        Refusal.ofOrder("of nothing", () -> Rig.then(new HotAisle(), 0, "1 take 0"), 0, "tap");
        Refusal.ofOrder("of a furnace tapped empty", () -> {
            HotAisle x = Rig.poured(1, 0);
            return Rig.then(x, 0, "0");
        }, 0, "tap");
    }

    private static void noLadle() {
        Refusal.ofOrder("with none", () -> {
            HotAisle x = new HotAisle();
            Rig.feed(x, 5);
            return Rig.then(x, 0, "0");
        }, 0, "tap");
    }

    /** "with an EMPTY LADLE": of matte, of slag, of metal. */
    private static void ladleIsNotEmpty() {
        Refusal.ofOrder("with matte", () -> atTheFedFurnace(new HotAisle(), "1 take 0 tap"), 0, "tap");
        Refusal.ofOrder("with slag", () -> {
            HotAisle x = Rig.poured(2, 0);
            x.blow(0, true);
            x.minutes(1);
            return atTheFedFurnace(x, "skim 0");
        }, 0, "tap");
        Refusal.ofOrder("with metal", () -> atTheFedFurnace(Rig.withCopper(5), "4 draw 0"), 0, "tap");
    }

    /** "at THE FURNACE": PlaceTest has all the other places. */
    private static void notAtTheFurnace() {
        Refusal.ofOrder("at 1", () -> {
            HotAisle x = new HotAisle();
            Rig.feed(x, 5);
            return Rig.then(x, 0, "1 take");
        }, 0, "tap");
    }

    /** The one copper that a tap of 98 leaves of 99. */
    private static void oneUnit() {
        HotAisle x = Rig.withOneInTheFurnace();
        Rig.doneAtOnce("of one", x, 0, "tap");
        Rig.stuffOfLadle(x, 0, 4, 1, 0, 0, 0);
        Check.same("ladle(0, 2)", x.ladle(0, 2), 1);
        Rig.booked(x, 0, 0, 0, 0, 0);
    }

    /** "n is the least of what THE FURNACE holds": nine. */
    private static void allThatThereIs() {
        HotAisle x = new HotAisle();
        Rig.feed(x, 1);
        Rig.done(x, 0, "1 take 0");
        Rig.doneAtOnce("of nine", x, 0, "tap");
        Rig.stuffOfLadle(x, 0, 4, 4, 3, 2, 0);
        Rig.booked(x, 0, 0, 0, 0, 0);
    }

    /** "and what the LADLE may": both are 98, so nothing is left. */
    private static void asMuchAsTheLadleMay() {
        HotAisle x = Rig.withFullVessel();
        Rig.done(x, 0, "0");
        Rig.feed(x, 10);
        Rig.booked(x, 0, 44, 33, 21, 0);
        Rig.done(x, 0, "tap");
        Rig.stuffOfLadle(x, 0, 4, 44, 33, 21, 0);
        Rig.booked(x, 0, 0, 0, 0, 0);
    }

    /** 99 are there, and the ladle may 98. */
    private static void oneMoreThanTheLadleMay() {
        HotAisle x = Rig.poured(1, 0);
        Rig.done(x, 0, "0");
        Rig.feed(x, 11);
        Rig.done(x, 0, "tap");
        Check.same("all of the ladle", x.book(2, 1) + x.book(2, 2) + x.book(2, 3), 98);
        Check.same("all of the furnace", x.book(0, 1) + x.book(0, 2) + x.book(0, 3), 1);
    }

    /** "at most 100 less its SKULL together": 100, 98, 96 come. */
    private static void lessItsSkull() {
        HotAisle x = new HotAisle();
        Rig.feed(x, 60);
        Rig.done(x, 0, "1 take 0 tap");
        Check.same("all of the ladle", x.book(2, 1) + x.book(2, 2) + x.book(2, 3), 100);
        Rig.done(x, 0, "4 pour 0 tap");
        Check.same("all of the ladle", x.book(2, 1) + x.book(2, 2) + x.book(2, 3), 98);
        Rig.done(x, 0, "8 pour 0 tap");
        Check.same("all of the ladle", x.book(2, 1) + x.book(2, 2) + x.book(2, 3), 96);
        Rig.done(x, 0, "1 set 6 take 0 tap");
        Check.same("all of both ladles", x.book(2, 1) + x.book(2, 2) + x.book(2, 3), 196);
    }

    /** 99 come with a skull of one. */
    private static void skullOfOne() {
        HotAisle x = Rig.then(Rig.withCopper(1), 0, "set 0");
        Rig.done(x, 1, "6 take 4 draw 15 pour 3 set");
        Rig.done(x, 1, "15");
        Rig.feed(x, 12);
        Rig.done(x, 0, "3 take 0 tap");
        Rig.stuffOfLadle(x, 1, 8, 1, 0, 0, 0);
        Check.same("all of the ladle", x.book(2, 1) + x.book(2, 2) + x.book(2, 3), 99);
        Check.same("all of the furnace", x.book(0, 1) + x.book(0, 2) + x.book(0, 3), 9);
    }

    /** "what there is times n by all there was, cut; of SULPHUR the rest". */
    private static void sharesAreCut() {
        HotAisle x = new HotAisle();
        Rig.feed(x, 50);
        Rig.done(x, 0, "1 take 0 tap");
        // 200, 150, 100 of 450 are 44.4, 33.3 and what is left of 100.
        Rig.stuffOfLadle(x, 0, 4, 44, 33, 23, 0);
        Rig.booked(x, 0, 156, 117, 77, 0);
        Rig.done(x, 0, "4 pour 0 tap");
        // 156, 117, 77 of 350 are 43.7, 32.8 and what is left of 98.
        Rig.stuffOfLadle(x, 0, 4, 43, 32, 23, 0);
        Rig.booked(x, 0, 113, 85, 54, 0);
    }

    /**
     * "if there is not so much SULPHUR, what lacks is IRON": of 44, 33, 22 there come 43.6 and 32.7, cut, and 23
     * sulphur are not there. Two cuts lack one unit at most, and some iron is always left for it, so that no
     * COPPER ever comes for SULPHUR.
     */
    private static void sulphurLacks() {
        HotAisle x = Rig.poured(1, 0);
        Rig.done(x, 0, "0");
        Rig.feed(x, 11);
        Rig.booked(x, 0, 44, 33, 22, 0);
        Rig.done(x, 0, "tap");
        Rig.stuffOfLadle(x, 0, 4, 43, 33, 22, 0);
        Rig.booked(x, 0, 1, 0, 0, 0);
    }

    /** Crane 0 does something, and the furnace has nine then. */
    private static HotAisle atTheFedFurnace(HotAisle x, String orders) {
        Rig.feed(x, 1);
        Rig.done(x, 0, orders);
        Rig.feed(x, 1);
        Check.same("crane(0, 0)", x.crane(0, 0), 0);
        return x;
    }
}
