/** What TAKE, SET, TAP, POUR, SKIM, DRAW and CLEAN do, and when they wait (Promises 6, 8, 10, 11). */
public final class WorkTest {
    public static void main(String[] args) {
        take();
        set();
        tap();
        tapLacksSulphur();
        tapNeedsAnEmptyLadle();
        pourMatte();
        pourMatteOnlyWhereItMay();
        pourMatteUpToThreeHundred();
        pourNothingButTheSkull();
        pourOneIntoAnEmptiedVessel();
        pourSlag();
        pourMetal();
        skim();
        skimAsMuchAsMay();
        draw();
        drawOnlyCopperAlone();
        clean();
        skullUpToTwenty();
        skullOfCopperThenIron();
        Check.end();
    }

    private static void take() {
        HotAisle x = new HotAisle();
        Rig.refused(x, 0, "take");
        Rig.done(x, 0, "6 take");
        Check.same("crane(0, 1)", x.crane(0, 1), 1);
        Rig.refused(x, 0, "take");
        Rig.done(x, 0, "1");
        Rig.refused(x, 0, "take");
        Check.same("crane(0, 1)", x.crane(0, 1), 1);
        Rig.done(x, 1, "6");
        Rig.refused(x, 1, "take");
        Check.same("ladle(0, 1)", x.ladle(0, 1), HotAisle.NONE);
    }

    private static void set() {
        HotAisle x = new HotAisle();
        Rig.refused(x, 0, "set");
        Rig.done(x, 1, "15");
        Rig.done(x, 0, "1 take");
        int[] noFloor = {0, 2, 4, 8, 12};
        for (int place : noFloor) {
            Rig.done(x, 0, String.valueOf(place));
            Rig.refused(x, 0, "set");
        }
        int[] taken = {6, 10, 14};
        for (int place : taken) {
            Rig.done(x, 0, String.valueOf(place));
            Rig.refused(x, 0, "set");
        }
        int[] free = {1, 3, 5, 7, 9, 11, 13};
        for (int place : free) {
            Rig.done(x, 0, place + " set");
            Check.same("ladle(0, 0)", x.ladle(0, 0), place);
            Check.same("ladle(0, 1)", x.ladle(0, 1), HotAisle.NONE);
            Rig.done(x, 0, "take");
        }
        Rig.done(x, 0, "0");
        Rig.done(x, 1, "14 take 15");
        Rig.refused(x, 1, "set");
        Rig.done(x, 1, "14 set");
        Check.same("ladle(3, 0)", x.ladle(3, 0), 14);
    }

    private static void tap() {
        HotAisle x = new HotAisle();
        Rig.done(x, 0, "1 take 0");
        Rig.refused(x, 0, "tap");
        Rig.feed(x, 1);
        Rig.done(x, 0, "tap");
        Rig.stuffOfLadle(x, 0, 4, 4, 3, 2, 0);
        Rig.booked(x, 0, 0, 0, 0, 0);
        x = new HotAisle();
        Rig.done(x, 0, "1 take");
        Rig.feed(x, 50);
        Rig.refused(x, 0, "tap");
        Rig.done(x, 0, "0 tap");
        // 200, 150, 100 of 450 are 44.4, 33.3 and what is left of 100.
        Rig.stuffOfLadle(x, 0, 4, 44, 33, 23, 0);
        Rig.booked(x, 0, 156, 117, 77, 0);
        Rig.done(x, 0, "4 pour 0 tap");
        // 156, 117, 77 of 350: 98 come, for 2 are its skull.
        Rig.stuffOfLadle(x, 0, 4, 43, 32, 23, 0);
        Rig.booked(x, 0, 113, 85, 54, 0);
    }

    /** 44, 33, 22 with room for 98: 43.6 and 32.7 are cut, and 23 sulphur are not there. */
    private static void tapLacksSulphur() {
        HotAisle x = new HotAisle();
        Rig.feed(x, 1);
        Rig.done(x, 0, "1 take 0 tap 4 pour 0");
        Rig.feed(x, 11);
        Rig.booked(x, 0, 44, 33, 22, 0);
        Rig.done(x, 0, "tap");
        Rig.stuffOfLadle(x, 0, 4, 43, 33, 22, 0);
        Rig.booked(x, 0, 1, 0, 0, 0);
    }

    private static void tapNeedsAnEmptyLadle() {
        HotAisle x = new HotAisle();
        Rig.feed(x, 30);
        Rig.done(x, 0, "0");
        Rig.refused(x, 0, "tap");
        Rig.done(x, 0, "1 take 0 tap");
        Rig.refused(x, 0, "tap");
        Rig.done(x, 0, "4 pour");
        x.blow(0, true);
        x.minutes(1);
        Rig.done(x, 0, "skim 0");
        Rig.refused(x, 0, "tap");
        Rig.booked(x, 0, 76, 57, 37, 0);
    }

    private static void pourMatte() {
        HotAisle x = new HotAisle();
        Rig.feed(x, 60);
        Rig.done(x, 0, "1 take 0 tap 4 pour 0 tap");
        Check.same("vessel(0, 0)", x.vessel(0, 0), 1150 - 40);
        Rig.stuffOfLadle(x, 0, 4, 43, 32, 23, 0);
        Rig.done(x, 0, "4");
        int heat = x.vessel(0, 0);
        Rig.done(x, 0, "pour");
        Check.same("vessel(0, 0)", x.vessel(0, 0), ((heat - 8) * 98 + 1150 * 96) / 194);
        Rig.stuffOfVessel(x, 0, 42 + 41, 33 + 32, 23 + 23, 0);
        Rig.stuffOfLadle(x, 0, 8, 4, 0, 0, 0);
        Rig.refused(x, 0, "pour");
        Rig.done(x, 0, "0");
        Rig.refused(x, 0, "pour");
        Check.same("ladle(0, 2)", x.ladle(0, 2), 0);
    }

    private static void pourMatteOnlyWhereItMay() {
        HotAisle x = new HotAisle();
        Rig.feed(x, 2);
        Rig.done(x, 1, "15");
        Rig.done(x, 0, "1 take 0 tap");
        int[] noVessel = {0, 1, 2, 3, 5, 6, 7, 9, 10, 11, 13, 14};
        for (int place : noVessel) {
            Rig.done(x, 0, String.valueOf(place));
            Rig.refused(x, 0, "pour");
        }
        Rig.booked(x, 2, 8, 6, 4, 0);
        Rig.done(x, 0, "12 pour");
        Rig.stuffOfVessel(x, 2, 6, 6, 4, 0);
        Rig.done(x, 0, "13 set 0");
        Rig.done(x, 1, "13 take");
        Rig.done(x, 1, "15");
        Rig.refused(x, 1, "pour");
    }

    /** 98 and 96 come; 94 are to come then, and 206 leave room for them. */
    private static void pourMatteUpToThreeHundred() {
        HotAisle x = new HotAisle();
        Rig.feed(x, 60);
        Rig.done(x, 0, "1 take 0 tap 4 pour 0 tap");
        Rig.done(x, 0, "4 pour 0 tap 4");
        Rig.stuffOfVessel(x, 0, 83, 65, 46, 0);
        x.cold(0, 12);
        x.keep();
        x.cold(0, 1);
        Rig.refused(x, 0, "pour");
        Check.same("ladle(0, 2)", x.ladle(0, 2), 1);
        Rig.stuffOfLadle(x, 0, 8, 4, 0, 0, 0);
        x.back();
        Rig.done(x, 0, "pour");
        Check.same("all in the vessel", x.book(1, 1) + x.book(1, 2) + x.book(1, 3), 300);
        Rig.stuffOfLadle(x, 0, 8, 6, 0, 0, 0);
    }

    /** The last copper of the furnace freezes to the ladle: the vessel keeps its heat. */
    private static void pourNothingButTheSkull() {
        HotAisle x = new HotAisle();
        Rig.feed(x, 1);
        Rig.done(x, 0, "1 take 0 tap 4 pour 0");
        Rig.feed(x, 11);
        Rig.done(x, 0, "tap 4 pour 0 tap 4");
        Rig.stuffOfLadle(x, 0, 4, 1, 0, 0, 0);
        Rig.stuffOfVessel(x, 0, 43, 36, 24, 0);
        int heat = x.vessel(0, 0);
        x.keep();
        Rig.done(x, 0, "pour");
        Check.same("vessel(0, 0)", x.vessel(0, 0), heat - 8);
        Rig.stuffOfVessel(x, 0, 43, 36, 24, 0);
        Rig.stuffOfLadle(x, 0, 8, 5, 0, 0, 0);
        Check.same("ladle(0, 2)", x.ladle(0, 2), 0);
        x.back();
        Rig.done(x, 0, "8 pour");
        Check.same("vessel(1, 0) of an empty one", x.vessel(1, 0), 1150);
        Rig.stuffOfVessel(x, 1, 0, 0, 0, 0);
        Rig.stuffOfLadle(x, 0, 8, 5, 0, 0, 0);
        Check.same("ladle(0, 2)", x.ladle(0, 2), 0);
        x.back();
    }

    /** With a skull of 4, a tap of 96 leaves 3 of 99; 2 of them freeze, and the vessel's own heat counts for nothing. */
    private static void pourOneIntoAnEmptiedVessel() {
        HotAisle x = new HotAisle();
        Rig.feed(x, 1);
        Rig.done(x, 0, "1 take 0 tap 4 pour");
        x.blow(0, true);
        x.minutes(2);
        x.blow(0, false);
        Rig.done(x, 0, "skim 2 pour 0");
        Rig.stuffOfVessel(x, 0, 0, 0, 0, 0);
        Check.same("vessel(0, 0)", x.vessel(0, 0), 1150 + 20 - 8 + 2 - 8 - 8);
        Rig.stuffOfLadle(x, 0, 8, 2, 0, 0, 2);
        Rig.feed(x, 11);
        Rig.done(x, 0, "tap 8 pour 0 tap");
        Rig.stuffOfLadle(x, 0, 4, 2, 1, 0, 0);
        Rig.done(x, 0, "4 pour");
        Rig.stuffOfVessel(x, 0, 0, 1, 0, 0);
        Check.same("vessel(0, 0)", x.vessel(0, 0), 1150);
    }

    private static void pourSlag() {
        HotAisle x = Rig.withFullVessel();
        x.blow(0, true);
        x.minutes(2);
        x.blow(0, false);
        Rig.done(x, 0, "skim");
        Rig.refused(x, 0, "pour");
        int[] elsewhere = {3, 1};
        for (int place : elsewhere) {
            Rig.done(x, 0, String.valueOf(place));
            Rig.refused(x, 0, "pour");
        }
        x.keep();
        Rig.done(x, 0, "2 pour");
        Rig.booked(x, 5, 0, 0, 0, 10);
        Rig.stuffOfLadle(x, 0, 8, 2, 0, 0, 2);
        Check.same("ladle(0, 2)", x.ladle(0, 2), 0);
        x.back();
        Rig.done(x, 0, "0 pour");
        Rig.booked(x, 6, 0, 0, 0, 10);
        Rig.booked(x, 0, 4, 3, 1, 0);
        Rig.stuffOfLadle(x, 0, 8, 2, 0, 0, 2);
        Check.same("ladle(0, 2)", x.ladle(0, 2), 0);
    }

    private static void pourMetal() {
        HotAisle x = Rig.withMetal();
        int[] elsewhere = {4, 3, 2, 8, 12, 14};
        for (int place : elsewhere) {
            Rig.done(x, 1, String.valueOf(place));
            Rig.refused(x, 1, "pour");
        }
        Rig.done(x, 1, "15 pour");
        Rig.booked(x, 4, 36, 0, 0, 0);
        Rig.stuffOfLadle(x, 1, 4, 0, 0, 0, 0);
        Rig.stuffOfLadle(x, 1, 8, 2, 0, 0, 0);
        Check.same("ladle(1, 2)", x.ladle(1, 2), 0);
        Rig.refused(x, 1, "pour");
    }

    private static void skim() {
        HotAisle x = Rig.withFullVessel();
        Rig.refused(x, 0, "skim");
        Check.same("ladle(0, 2)", x.ladle(0, 2), 0);
        x.blow(0, true);
        x.minutes(1);
        Rig.done(x, 0, "skim");
        Rig.stuffOfLadle(x, 0, 4, 0, 0, 0, 12);
        Rig.stuffOfVessel(x, 0, 42, 21, 23, 0);
        x.blow(0, false);
        Rig.refused(x, 0, "skim");
        x.blow(0, true);
        x.minutes(1);
        Rig.done(x, 0, "skim");
        Rig.stuffOfLadle(x, 0, 4, 0, 0, 0, 24);
        x.minutes(1);
        Rig.done(x, 0, "3");
        Rig.refused(x, 0, "skim");
        Rig.done(x, 0, "1 set 4");
        Rig.refused(x, 0, "skim");
        skimWithMatte();
        skimTheLastOne();
    }

    private static void skimWithMatte() {
        HotAisle x = Rig.withFullVessel();
        x.blow(0, true);
        x.minutes(1);
        Rig.done(x, 0, "0 tap 4");
        x.blow(0, false);
        int slag = x.vessel(0, 5);
        Check.that("there is slag", slag > 0);
        Rig.refused(x, 0, "skim");
        Check.same("ladle(0, 2)", x.ladle(0, 2), 1);
        Check.same("vessel(0, 5)", x.vessel(0, 5), slag);
        x = Rig.withMetal();
        Rig.done(x, 0, "0 tap");
        x.keep();
        Rig.refused(x, 1, "skim");
    }

    /** A vessel of 2, 3, 2 has 4 slag behind a minute, and one more behind the next. */
    private static void skimTheLastOne() {
        HotAisle x = new HotAisle();
        Rig.feed(x, 1);
        Rig.done(x, 0, "1 take 0 tap 4 pour");
        x.blow(0, true);
        x.minutes(1);
        x.blow(0, false);
        Rig.done(x, 0, "skim");
        Rig.stuffOfLadle(x, 0, 4, 0, 0, 0, 4);
        x.blow(0, true);
        x.minutes(1);
        Rig.stuffOfVessel(x, 0, 0, 0, 0, 1);
        Rig.done(x, 0, "skim");
        Rig.stuffOfLadle(x, 0, 4, 0, 0, 0, 5);
        Rig.stuffOfVessel(x, 0, 0, 0, 0, 0);
    }

    /** The iron of two ladles and much copper make more slag than the 96 that the ladle may. */
    private static void skimAsMuchAsMay() {
        HotAisle x = new HotAisle();
        Rig.feed(x, 30);
        Rig.done(x, 0, "1 take 0 tap 4 pour 0 tap");
        Rig.done(x, 0, "4 pour");
        x.blow(0, true);
        x.minutes(20);
        x.cold(0, 20);
        x.blow(0, true);
        x.minutes(20);
        x.blow(0, false);
        int slag = x.vessel(0, 5);
        Check.that("there is more than may come", slag > 96);
        Rig.done(x, 0, "skim");
        Rig.stuffOfLadle(x, 0, 4, 0, 0, 0, 96);
        Check.same("vessel(0, 5)", x.vessel(0, 5), slag - 96);
        Rig.refused(x, 0, "skim");
        Rig.stuffOfLadle(x, 0, 4, 0, 0, 0, 96);
        Rig.done(x, 0, "2 pour");
        Rig.booked(x, 5, 0, 0, 0, 94);
        Rig.stuffOfLadle(x, 0, 8, 4, 0, 0, 2);
        Rig.done(x, 0, "4 skim");
        Check.same("vessel(0, 5)", x.vessel(0, 5), 0);
        Rig.stuffOfLadle(x, 0, 4, 0, 0, 0, slag - 96);
    }

    private static void draw() {
        HotAisle x = Rig.withCopperAlone();
        Rig.done(x, 0, "4");
        x.blow(0, true);
        Rig.give(x, 0, "draw");
        x.limit(0);
        x.minutes(1);
        // Blown, it makes slag of its copper.
        Check.same("crane(0, 4)", x.crane(0, 4), 1);
        Rig.stuffOfVessel(x, 0, 32, 0, 0, 6);
        x.blow(0, false);
        x.minutes(1);
        Check.same("crane(0, 4)", x.crane(0, 4), 2);
        x.drop(0);
        Rig.done(x, 0, "skim 2 pour 4 draw");
        Rig.stuffOfLadle(x, 0, 4, 32, 0, 0, 0);
        Rig.stuffOfVessel(x, 0, 0, 0, 0, 0);
        Check.same("ladle(0, 2)", x.ladle(0, 2), 3);
        drawAsMuchAsMay();
        drawTheLastOne();
    }

    private static void drawAsMuchAsMay() {
        HotAisle x = Rig.withCopperAlone();
        x.cold(0, 50);
        x.cold(0, 50);
        Rig.refused(x, 0, "draw");
        Rig.done(x, 0, "4");
        int heat = x.vessel(0, 0);
        Rig.done(x, 0, "draw");
        Check.same("vessel(0, 0)", x.vessel(0, 0), heat - 8);
        // Its skull has 2 copper and 2 slag.
        Rig.stuffOfLadle(x, 0, 4, 96, 0, 0, 0);
        Rig.stuffOfVessel(x, 0, 42, 0, 0, 0);
        Rig.refused(x, 0, "draw");
        Rig.stuffOfLadle(x, 0, 4, 96, 0, 0, 0);
        Rig.done(x, 0, "3 set");
        Rig.done(x, 0, "0");
        Rig.done(x, 1, "4");
        Rig.refused(x, 1, "draw");
        Rig.done(x, 1, "3 take 4");
        Rig.refused(x, 1, "skim");
        Rig.refused(x, 1, "pour");
    }

    /** Of 97 copper, 96 come; the one that is left grows cold, and can be drawn too. */
    private static void drawTheLastOne() {
        HotAisle x = Rig.withCopperAlone();
        x.cold(0, 50);
        x.cold(0, 9);
        Rig.done(x, 0, "4 draw 3");
        Rig.stuffOfVessel(x, 0, 1, 0, 0, 0);
        int heat = x.vessel(0, 0);
        x.minutes(1);
        Check.same("vessel(0, 0) with one copper", x.vessel(0, 0), heat - 8);
        Rig.done(x, 0, "0");
        Rig.done(x, 1, "6 take 4 draw");
        Rig.stuffOfLadle(x, 1, 4, 1, 0, 0, 0);
        Rig.stuffOfVessel(x, 0, 0, 0, 0, 0);
        heat = x.vessel(0, 0);
        Rig.refused(x, 1, "draw");
        Check.same("vessel(0, 0) with none", x.vessel(0, 0), heat);
    }

    private static void drawOnlyCopperAlone() {
        HotAisle x = Rig.withFullVessel();
        Rig.refused(x, 0, "draw");
        x.blow(0, true);
        x.minutes(6);
        x.blow(0, false);
        Rig.done(x, 0, "skim 2 pour 4");
        Rig.stuffOfVessel(x, 0, 42, 0, 20, 0);
        Rig.refused(x, 0, "draw");
        x = Rig.withCopperAlone();
        Rig.done(x, 0, "0 tap 4");
        Rig.refused(x, 0, "draw");
        Check.same("ladle(0, 2)", x.ladle(0, 2), 1);
        Rig.done(x, 0, "8");
        Rig.done(x, 0, "pour");
        Rig.done(x, 0, "7");
        Rig.done(x, 1, "12");
        Rig.done(x, 1, "10 take 12");
        // Nothing is in vessel 2.
        Rig.refused(x, 1, "draw");
        Check.same("ladle(2, 2)", x.ladle(2, 2), 0);
    }

    private static void clean() {
        HotAisle x = Rig.withFullVessel();
        Rig.refused(x, 0, "clean");
        int[] elsewhere = {0, 2, 3, 5, 9};
        for (int place : elsewhere) {
            Rig.done(x, 0, String.valueOf(place));
            Rig.refused(x, 0, "clean");
        }
        Rig.stuffOfLadle(x, 0, 8, 2, 0, 0, 0);
        Rig.done(x, 0, "1");
        x.keep();
        Rig.done(x, 0, "set");
        Rig.refused(x, 0, "clean");
        x.back();
        Rig.done(x, 0, "clean");
        Rig.stuffOfLadle(x, 0, 8, 0, 0, 0, 0);
        Rig.booked(x, 7, 2, 0, 0, 0);
        Rig.refused(x, 0, "clean");
        Rig.booked(x, 7, 2, 0, 0, 0);
        x = Rig.withFullVessel();
        Rig.done(x, 0, "0 tap 1");
        Rig.refused(x, 0, "clean");
        Rig.stuffOfLadle(x, 0, 8, 2, 0, 0, 0);
        x = Rig.withMetal();
        Rig.done(x, 1, "14");
        Rig.refused(x, 1, "clean");
        Rig.done(x, 1, "15 pour 13");
        Rig.refused(x, 1, "clean");
        Rig.done(x, 1, "14 clean");
        Rig.stuffOfLadle(x, 1, 8, 0, 0, 0, 0);
        Rig.booked(x, 7, 2, 0, 0, 0);
    }

    /** Nine come with each tap; the one copper between makes the skull 5, and so 19 before the last two pours. */
    private static void skullUpToTwenty() {
        HotAisle x = new HotAisle();
        Rig.feed(x, 1);
        Rig.done(x, 0, "1 take 0 tap 4 pour 0");
        Rig.feed(x, 11);
        Rig.done(x, 0, "tap 4 pour 0 tap 4 pour 0");
        int[] skulls = {7, 9, 11, 13, 15, 17, 19, 20, 20};
        int inVessel = 103;
        int skull = 5;
        for (int due : skulls) {
            Rig.feed(x, 1);
            Rig.done(x, 0, "tap 4 pour 0");
            inVessel += 9 - (due - skull);
            skull = due;
            Rig.stuffOfLadle(x, 0, 8, skull, 0, 0, 0);
            Check.same("all in the vessel", x.book(1, 1) + x.book(1, 2) + x.book(1, 3), inVessel);
        }
        Rig.feed(x, 20);
        Rig.done(x, 0, "tap");
        Rig.stuffOfLadle(x, 0, 4, 35, 26, 19, 0);
        Rig.booked(x, 0, 45, 34, 21, 0);
    }

    /** With a skull of 12, a tap of 88 leaves 1 copper and 1 iron of 90: both freeze. */
    private static void skullOfCopperThenIron() {
        HotAisle x = new HotAisle();
        Rig.done(x, 0, "1 take 0");
        for (int i = 0; i < 6; i++) {
            Rig.feed(x, 1);
            Rig.done(x, 0, "tap 4 pour 0");
        }
        Rig.stuffOfLadle(x, 0, 8, 12, 0, 0, 0);
        Rig.feed(x, 10);
        Rig.done(x, 0, "tap");
        Rig.stuffOfLadle(x, 0, 4, 39, 29, 20, 0);
        Rig.booked(x, 0, 1, 1, 0, 0);
        Rig.done(x, 0, "4 pour 0 tap 4 pour");
        Rig.stuffOfLadle(x, 0, 8, 15, 1, 0, 0);
        Rig.booked(x, 3, 15, 1, 0, 0);
        Rig.done(x, 0, "1 clean");
        Rig.booked(x, 7, 15, 1, 0, 0);
    }
}
