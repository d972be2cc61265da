/** Promise 2: fed, and the first step of a minute. */
public final class FedTest {
    public static void main(String[] args) {
        answersWhatWas();
        feedsOnlyWhileTold();
        feedsUpToSixHundred();
        feedsNotToSixHundredAndOne();
        nothingOfItWhenFull();
        notFullWhileNotFed();
        fedAgainWhenThereIsRoom();
        fedBeforeTheCranes();
        fullBeforeTheCranes();
        Check.end();
    }

    /** "THE FURNACE is fed, or not: what was (1, 0)." */
    private static void answersWhatWas() {
        HotAisle x = new HotAisle();
        Check.same("fed(false)", x.fed(false), 0);
        Check.same("fed(true)", x.fed(true), 0);
        Check.same("fed(true)", x.fed(true), 1);
        Check.same("count(9)", x.count(9), 1);
        Check.same("fed(false)", x.fed(false), 1);
        Check.same("count(9)", x.count(9), 0);
        Check.same("fed(false)", x.fed(false), 0);
        Rig.booked(x, 0, 0, 0, 0, 0);
    }

    /** "THE FURNACE is fed, if that is told: 4 COPPER, 3 IRON, 2 SULPHUR". */
    private static void feedsOnlyWhileTold() {
        HotAisle x = new HotAisle();
        x.minutes(2);
        Rig.booked(x, 0, 0, 0, 0, 0);
        x.fed(true);
        x.minutes(1);
        Rig.booked(x, 0, 4, 3, 2, 0);
        Rig.booked(x, 8, 4, 3, 2, 0);
        x.minutes(6);
        Rig.booked(x, 0, 28, 21, 14, 0);
        x.fed(false);
        x.minutes(5);
        Rig.booked(x, 0, 28, 21, 14, 0);
        Rig.booked(x, 8, 28, 21, 14, 0);
    }

    /**
     * "THE FURNACE holds COPPER, IRON, SULPHUR, at most 600 together"; "if that leaves it at most 600": three
     * ladles of 100 leave 240 of 540; 39 minutes make them 591, and nine more are 600.
     */
    private static void feedsUpToSixHundred() {
        HotAisle x = new HotAisle();
        Rig.feed(x, 60);
        Rig.done(x, 0, "1 take 0 tap 1 set");
        Rig.done(x, 0, "6 take 0 tap 6 set");
        Rig.done(x, 0, "10 take 0 tap");
        Check.same("all of the furnace", all(x), 240);
        Rig.feed(x, 39);
        Check.same("all of the furnace", all(x), 591);
        x.fed(true);
        x.minutes(1);
        Check.same("all of the furnace", all(x), 600);
        Check.same("count(5) at 600", x.count(5), 0);
        x.minutes(2);
        Check.same("all of the furnace", all(x), 600);
        Check.same("count(5) above 600", x.count(5), 2);
    }

    /** Two ladles of 100 leave 340 of 540; 28 minutes make them 592, and nine more would be 601. */
    private static void feedsNotToSixHundredAndOne() {
        HotAisle x = new HotAisle();
        Rig.feed(x, 60);
        Rig.done(x, 0, "1 take 0 tap 1 set");
        Rig.done(x, 0, "6 take 0 tap");
        Rig.feed(x, 28);
        Check.same("all of the furnace", all(x), 592);
        x.fed(true);
        x.minutes(1);
        Check.same("all of the furnace", all(x), 592);
        Check.same("count(5) at 592", x.count(5), 1);
    }

    /** "else nothing (FULL MINUTES are counted)": at 594 not even the six for which there is room. */
    private static void nothingOfItWhenFull() {
        HotAisle x = fed66Minutes();
        Rig.booked(x, 0, 264, 198, 132, 0);
        Check.same("count(5) at 594", x.count(5), 0);
        x.minutes(1);
        Rig.booked(x, 0, 264, 198, 132, 0);
        Rig.booked(x, 8, 264, 198, 132, 0);
        Check.same("count(5)", x.count(5), 1);
        x.minutes(3);
        Check.same("count(5)", x.count(5), 4);
    }

    /** "if that is told": a full furnace that is not fed has no FULL MINUTE. */
    private static void notFullWhileNotFed() {
        HotAisle x = fed66Minutes();
        x.fed(false);
        x.minutes(3);
        Check.same("count(5)", x.count(5), 0);
    }

    /** A ladle of 100 makes room for eleven minutes: 494 and 99 are 593. */
    private static void fedAgainWhenThereIsRoom() {
        HotAisle x = fed66Minutes();
        x.fed(false);
        Rig.done(x, 0, "1 take 0 tap");
        x.fed(true);
        x.minutes(12);
        Check.same("all of the furnace", all(x), 593);
        Check.same("count(5)", x.count(5), 1);
        Check.same("all that came in", x.book(8, 1) + x.book(8, 2) + x.book(8, 3), 693);
    }

    /** "A MINUTE, in this order": what is fed in a minute can be tapped in it. */
    private static void fedBeforeTheCranes() {
        HotAisle x = Rig.then(new HotAisle(), 0, "1 take 0");
        x.fed(true);
        Rig.doneAtOnce("of what is just fed", x, 0, "tap");
        Rig.stuffOfLadle(x, 0, 4, 4, 3, 2, 0);
        Rig.booked(x, 0, 0, 0, 0, 0);
    }

    /** A tap makes room from the next minute on. */
    private static void fullBeforeTheCranes() {
        HotAisle x = fed66Minutes();
        x.fed(false);
        Rig.done(x, 0, "1 take 0");
        x.fed(true);
        Rig.doneAtOnce("of a full furnace", x, 0, "tap");
        Check.same("count(5)", x.count(5), 1);
        Check.same("all of the furnace", all(x), 494);
        x.minutes(1);
        Check.same("count(5)", x.count(5), 1);
        Check.same("all of the furnace", all(x), 503);
    }

    private static HotAisle fed66Minutes() {
        HotAisle x = new HotAisle();
        x.fed(true);
        x.minutes(60);
        x.minutes(6);
        return x;
    }

    private static int all(HotAisle x) {
        return x.book(0, 1) + x.book(0, 2) + x.book(0, 3);
    }
}
