/** "a SKULL of 0 to 20": what freezes to one of 18 and 19, and what a ladle with one of 20 does (promises 8, 11, 13). */
public final class FullSkullTest {
    public static void main(String[] args) {
        from18To20();
        from19To20();
        noneAbove20();
        allKindsAreOfThe20();
        roomInTheVesselAt19();
        roomInTheVesselAt20();
        twentyLeavesRoomForEighty();
        slagAt20();
        metalAt20();
        standsAndHangsAt20();
        keptAt20();
        Check.end();
    }

    /** Ten pours of nine make it 20, two by two. */
    private static void from18To20() {
        HotAisle x = Rig.withSkull(18);
        int[] before = vesselOf(x);
        Rig.pourNine(x, 0);
        Rig.stuffOfLadle(x, 0, 8, 20, 0, 0, 0);
        Rig.stuffOfVessel(x, 0, before[0] + 2, before[1] + 3, before[2] + 2, 0);
    }

    /** "less, if the SKULL would be above 20": one of nine. */
    private static void from19To20() {
        HotAisle x = withSkull19();
        int[] before = vesselOf(x);
        Rig.pourNine(x, 0);
        Rig.stuffOfLadle(x, 0, 8, 20, 0, 0, 0);
        Rig.stuffOfVessel(x, 0, before[0] + 3, before[1] + 3, before[2] + 2, 0);
    }

    /** None of nine, so all that it held comes. */
    private static void noneAbove20() {
        HotAisle x = Rig.withSkull(20);
        int[] before = vesselOf(x);
        Rig.pourNine(x, 0);
        Rig.stuffOfLadle(x, 0, 8, 20, 0, 0, 0);
        Rig.stuffOfVessel(x, 0, before[0] + 4, before[1] + 3, before[2] + 2, 0);
        Rig.pourNine(x, 0);
        Rig.stuffOfLadle(x, 0, 8, 20, 0, 0, 0);
        Rig.stuffOfVessel(x, 0, before[0] + 8, before[1] + 6, before[2] + 4, 0);
    }

    /** 18 copper and two slag are 20, and 19 copper and one iron are. */
    private static void allKindsAreOfThe20() {
        HotAisle x = Rig.withCopperAlone();
        Rig.done(x, 0, "0 tap 8 pour 0");
        Rig.stuffOfLadle(x, 0, 8, 4, 0, 0, 2);
        for (int i = 0; i < 7; i++) {
            Rig.pourNine(x, 1);
        }
        Rig.stuffOfLadle(x, 0, 8, 18, 0, 0, 2);
        Rig.pourNine(x, 1);
        Rig.stuffOfLadle(x, 0, 8, 18, 0, 0, 2);
        x = Rig.then(Rig.withIronInTheSkull(), 0, "0");
        Rig.pourNine(x, 0);
        Rig.pourNine(x, 0);
        Rig.stuffOfLadle(x, 0, 8, 19, 1, 0, 0);
        Rig.pourNine(x, 0);
        Rig.stuffOfLadle(x, 0, 8, 19, 1, 0, 0);
        Rig.feed(x, 9);
        Rig.done(x, 0, "tap");
        Check.same("all of the ladle", x.book(2, 1) + x.book(2, 2) + x.book(2, 3), 80);
    }

    /** "(if it holds all that comes)": 80 come of 81, for one freezes. */
    private static void roomInTheVesselAt19() {
        HotAisle x = filledUpTo(withSkull19(), 220);
        Rig.stuffOfLadle(x, 0, 4, 36, 27, 18, 0);
        pourEighty(x);
        Rig.stuffOfLadle(x, 0, 8, 20, 0, 0, 0);
        Refusal.ofOrder("to 301", () -> filledUpTo(withSkull19(), 221), 0, "pour");
    }

    /** 80 come of 80, for none freezes. */
    private static void roomInTheVesselAt20() {
        HotAisle x = filledUpTo(Rig.withSkull(20), 220);
        Rig.stuffOfLadle(x, 0, 4, 35, 26, 19, 0);
        pourEighty(x);
        Rig.stuffOfLadle(x, 0, 8, 20, 0, 0, 0);
        Refusal.ofOrder("to 301", () -> filledUpTo(Rig.withSkull(20), 221), 0, "pour");
        Refusal.ofOrder("to 302", () -> filledUpTo(Rig.withSkull(20), 222), 0, "pour");
    }

    private static void pourEighty(HotAisle x) {
        int heat = x.vessel(0, 0) - 8;
        Rig.doneAtOnce("to 300", x, 0, "pour");
        Check.same("all in the vessel", all(x), 300);
        Check.same("vessel(0, 0)", x.vessel(0, 0), (heat * 220 + 1150 * 80) / 300);
    }

    /** "at most 100 less its SKULL": 80, 60, 40 of 180 are 35.5, 26.6 and what is left of 80. */
    private static void twentyLeavesRoomForEighty() {
        HotAisle x = Rig.withSkull(20);
        Rig.feed(x, 20);
        Rig.done(x, 0, "tap");
        Rig.stuffOfLadle(x, 0, 4, 35, 26, 19, 0);
        Rig.booked(x, 0, 45, 34, 21, 0);
        // A ladle of matte is not tapped into, nor emptied on the floor.
        Rig.refused(x, 0, "tap");
        Rig.done(x, 0, "1");
        Rig.refused(x, 0, "clean");
        Rig.refused(x, 0, "pour");
    }

    /** All six come to the pot, and all six to the furnace. */
    private static void slagAt20() {
        int[] places = {2, 0};
        for (int i = 0; i < 2; i++) {
            HotAisle x = Rig.poured(6, 0);
            x.blow(0, true);
            x.minutes(1);
            x.blow(0, false);
            Rig.done(x, 0, "0");
            pourNines(x, 9);
            Rig.done(x, 0, "4 skim " + places[i]);
            Rig.stuffOfLadle(x, 0, 4, 0, 0, 0, 6);
            Rig.doneAtOnce("of slag at " + places[i], x, 0, "pour");
            Rig.booked(x, 5 + i, 0, 0, 0, 6);
            Rig.booked(x, 6 - i, 0, 0, 0, 0);
            Rig.stuffOfLadle(x, 0, 8, 20, 0, 0, 0);
        }
    }

    /** 80 of 90 are drawn, and all of them come to the wheel. */
    private static void metalAt20() {
        HotAisle x = Rig.cooled(Rig.withCopper(51), 0, 39);
        Rig.done(x, 0, "0");
        pourNines(x, 10);
        Rig.done(x, 0, "8");
        Rig.refused(x, 0, "draw");
        Rig.done(x, 0, "4");
        Rig.doneAtOnce("of 90", x, 0, "draw");
        Rig.stuffOfLadle(x, 0, 4, 80, 0, 0, 0);
        Rig.stuffOfVessel(x, 0, 10, 0, 0, 0);
        Rig.done(x, 0, "3 set 0");
        Rig.done(x, 1, "3 take 15");
        Rig.doneAtOnce("of 80", x, 1, "pour");
        Rig.booked(x, 4, 80, 0, 0, 0);
        Rig.stuffOfLadle(x, 0, 8, 20, 0, 0, 0);
    }

    /** It is set and taken as any other: where one stands it is not set, and it stands where it was set alone. */
    private static void standsAndHangsAt20() {
        HotAisle x = Rig.then(Rig.withSkull(20), 0, "6");
        Rig.refused(x, 0, "set");
        Rig.done(x, 0, "5");
        Rig.doneAtOnce("at 5", x, 0, "set");
        Check.same("ladle(0, 1)", x.ladle(0, 1), HotAisle.NONE);
        Rig.done(x, 0, "3");
        Rig.refused(x, 0, "take");
        Rig.done(x, 0, "5");
        Rig.doneAtOnce("at 5", x, 0, "take");
        Check.same("crane(0, 1)", x.crane(0, 1), 0);
    }

    /** It comes back with its ladle: where that stood, what it held, and who carried it. */
    private static void keptAt20() {
        HotAisle x = Rig.withSkull(20);
        x.keep();
        Rig.feed(x, 20);
        Rig.done(x, 0, "tap 5 set");
        x.keep();
        Rig.done(x, 0, "take 4 pour 1 clean set");
        Check.same("all in skulls", x.book(3, 1), 0);
        x.back();
        Check.same("ladle(0, 0)", x.ladle(0, 0), 5);
        Check.same("ladle(0, 1)", x.ladle(0, 1), HotAisle.NONE);
        Check.same("ladle(0, 2)", x.ladle(0, 2), 1);
        Rig.stuffOfLadle(x, 0, 4, 35, 26, 19, 0);
        Rig.stuffOfLadle(x, 0, 8, 20, 0, 0, 0);
        x.back();
        Check.same("ladle(0, 0)", x.ladle(0, 0), 0);
        Check.same("ladle(0, 1)", x.ladle(0, 1), 0);
        Check.same("ladle(0, 2)", x.ladle(0, 2), 0);
        Rig.stuffOfLadle(x, 0, 4, 0, 0, 0, 0);
        Rig.stuffOfLadle(x, 0, 8, 20, 0, 0, 0);
    }

    /** Crane 0 comes from the furnace with all that its ladle may, over vessel 0 with so much. */
    private static HotAisle filledUpTo(HotAisle x, int units) {
        Rig.feed(x, 20);
        Rig.done(x, 0, "tap 4");
        for (int missing = units - all(x); missing > 0; missing -= 50) {
            x.cold(0, Math.min(50, missing));
        }
        Check.same("all in the vessel", all(x), units);
        return x;
    }

    private static int all(HotAisle x) {
        return x.book(1, 1) + x.book(1, 2) + x.book(1, 3) + x.book(1, 4);
    }

    /** A pour of one copper makes it odd. */
    private static HotAisle withSkull19() {
        HotAisle x = Rig.then(Rig.withOneInTheFurnace(), 0, "tap 4 pour 0");
        for (int i = 0; i < 7; i++) {
            Rig.pourNine(x, 0);
        }
        Rig.stuffOfLadle(x, 0, 8, 19, 0, 0, 0);
        return x;
    }

    /** Into vessel 1, till the skull of ladle 0 is 20 copper. */
    private static void pourNines(HotAisle x, int times) {
        for (int i = 0; i < times; i++) {
            Rig.pourNine(x, 1);
        }
        Rig.stuffOfLadle(x, 0, 8, 20, 0, 0, 0);
    }

    private static int[] vesselOf(HotAisle x) {
        return new int[] {x.vessel(0, 2), x.vessel(0, 3), x.vessel(0, 4)};
    }
}
