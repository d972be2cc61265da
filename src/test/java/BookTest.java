/** Promise 13: book. */
public final class BookTest {
    public static void main(String[] args) {
        beyond();
        throughTheAisle();
        givenBackAndCleaned();
        lastVesselAndLastLadle();
        Check.end();
    }

    /** "STUFF s (1 to 4)"; "BAD." */
    private static void beyond() {
        for (int i = 1; i <= 4; i++) {
            int s = i;
            Refusal.bad("book(#, " + s + ")", 0, 10, (x, n) -> x.book(n, s));
        }
        for (int i = 0; i <= 10; i++) {
            int at = i;
            Refusal.bad("book(" + at + ", #)", 1, 4, (x, n) -> x.book(at, n));
        }
        Refusal.ofCall("book(11, 0)", Rig::busy, x -> x.book(11, 0), HotAisle.BAD);
    }

    /** "0 in THE FURNACE, 1 in VESSELS, 2 in LADLES, 3 in SKULLS, 4 at THE WHEEL (ANODES too), 5 in THE POT, .." */
    private static void throughTheAisle() {
        HotAisle x = new HotAisle();
        Rig.feed(x, 12);
        Rig.booked(x, 0, 48, 36, 24, 0);
        Rig.booked(x, 8, 48, 36, 24, 0);
        Rig.done(x, 0, "1 take 0 tap");
        Rig.booked(x, 0, 4, 3, 1, 0);
        Rig.booked(x, 2, 44, 33, 23, 0);
        x = Rig.withMetal();
        Rig.booked(x, 0, 4, 3, 1, 0);
        Rig.booked(x, 1, 0, 0, 0, 0);
        Rig.booked(x, 2, 38, 0, 0, 0);
        Rig.booked(x, 3, 2, 0, 0, 2);
        Rig.booked(x, 4, 0, 0, 0, 0);
        Rig.booked(x, 5, 0, 0, 0, 35);
        Rig.booked(x, 6, 0, 0, 0, 0);
        Rig.booked(x, 7, 0, 0, 0, 0);
        Rig.booked(x, 8, 48, 36, 24, 0);
        Rig.booked(x, 9, 4, 33, 23, 0);
        Rig.booked(x, 10, 0, 0, 0, 37);
        Rig.done(x, 1, "15 pour");
        Rig.booked(x, 2, 0, 0, 0, 0);
        Rig.booked(x, 3, 4, 0, 0, 2);
        Rig.booked(x, 4, 36, 0, 0, 0);
        Rig.done(x, 0, "clean 0 tap 4 pour");
        Rig.booked(x, 0, 0, 0, 0, 0);
        Rig.booked(x, 1, 2, 3, 1, 0);
        Rig.booked(x, 3, 4, 0, 0, 0);
        Rig.booked(x, 4, 36, 0, 0, 0);
        Rig.booked(x, 7, 2, 0, 0, 2);
        Check.same("cold(0, 50)", x.cold(0, 50), 1150 * 6 / 56);
        Rig.booked(x, 1, 52, 3, 1, 0);
        Rig.booked(x, 8, 98, 36, 24, 0);
    }

    /** "6 given back to THE FURNACE (SLAG; it does not fill it), 7 cleaned off". */
    private static void givenBackAndCleaned() {
        HotAisle x = Rig.withFullVessel();
        x.blow(0, true);
        x.minutes(1);
        Rig.done(x, 0, "skim 0");
        Rig.booked(x, 2, 0, 0, 0, 12);
        Rig.done(x, 0, "pour");
        Rig.booked(x, 6, 0, 0, 0, 10);
        Rig.booked(x, 5, 0, 0, 0, 0);
        Rig.booked(x, 0, 4, 3, 1, 0);
        Rig.booked(x, 3, 2, 0, 0, 2);
        Rig.done(x, 0, "1 clean");
        Rig.booked(x, 7, 2, 0, 0, 2);
        Rig.booked(x, 3, 0, 0, 0, 0);
    }

    /** LADLE 3 and VESSEL 2 count, and so do all of several: ladles 0 and 3, vessels 0 and 2. */
    private static void lastVesselAndLastLadle() {
        HotAisle x = new HotAisle();
        Rig.feed(x, 2);
        Rig.done(x, 0, "0");
        Rig.done(x, 1, "14 take 3 set 15");
        Rig.done(x, 0, "3 take 0 tap 3 set 0");
        Rig.booked(x, 2, 8, 6, 4, 0);
        Rig.done(x, 1, "3 take 12");
        Rig.feed(x, 1);
        Rig.done(x, 0, "1 take 0 tap");
        Rig.booked(x, 2, 8 + 4, 6 + 3, 4 + 2, 0);
        Rig.done(x, 1, "pour");
        Rig.booked(x, 1, 6, 6, 4, 0);
        Rig.booked(x, 3, 2, 0, 0, 0);
        Rig.done(x, 0, "4 pour");
        Rig.booked(x, 1, 6 + 2, 6 + 3, 4 + 2, 0);
        Rig.booked(x, 2, 0, 0, 0, 0);
        Rig.booked(x, 3, 2 + 2, 0, 0, 0);
    }
}
