/** The SKULL of a ladle: what freezes to it at a POUR, and what it is made of (promises 8, 11, 13). */
public final class SkullTest {
    public static void main(String[] args) {
        twoOfWhatItHeld();
        twoOfTwo();
        oneOfOne();
        twoOfThree();
        ofSlag();
        allOfALittleSlag();
        ofMetal();
        from18To20();
        from19To20();
        noneAbove20();
        allKindsAreOfThe20();
        roomInTheVesselAt19();
        roomInTheVesselAt20();
        twentyLeavesRoomForEighty();
        copperFirstThenIron();
        keepsWhatItIsMadeOf();
        noneIfItWaits();
        Check.end();
    }

    /** "2 of what it held .. do not come out, but to its SKULL: COPPER first". */
    private static void twoOfWhatItHeld() {
        HotAisle x = Rig.poured(1, 0);
        Rig.stuffOfVessel(x, 0, 2, 3, 2, 0);
        Rig.stuffOfLadle(x, 0, 8, 2, 0, 0, 0);
        Rig.booked(x, 3, 2, 0, 0, 0);
    }

    /** Of two drawn none comes to the wheel. */
    private static void twoOfTwo() {
        HotAisle x = Rig.withCopper(2);
        Rig.done(x, 1, "6 take 4 draw 15 pour");
        Rig.booked(x, 4, 0, 0, 0, 0);
        Rig.stuffOfLadle(x, 1, 8, 2, 0, 0, 0);
        Check.same("ladle(1, 2)", x.ladle(1, 2), 0);
    }

    /** "(all, if it was less". */
    private static void oneOfOne() {
        HotAisle x = Rig.withCopper(1);
        Rig.done(x, 1, "6 take 4 draw 15 pour");
        Rig.booked(x, 4, 0, 0, 0, 0);
        Rig.stuffOfLadle(x, 1, 8, 1, 0, 0, 0);
        Check.same("ladle(1, 2)", x.ladle(1, 2), 0);
        x = Rig.withOneInTheFurnace();
        Rig.stuffOfLadle(x, 0, 8, 4, 0, 0, 0);
        Rig.done(x, 0, "tap 4 pour");
        Rig.stuffOfLadle(x, 0, 8, 5, 0, 0, 0);
    }

    private static void twoOfThree() {
        HotAisle x = Rig.withCopper(3);
        Rig.done(x, 1, "6 take 4 draw 15 pour");
        Rig.booked(x, 4, 1, 0, 0, 0);
        Rig.stuffOfLadle(x, 1, 8, 2, 0, 0, 0);
    }

    private static void ofSlag() {
        HotAisle x = Rig.poured(2, 0);
        x.blow(0, true);
        x.minutes(1);
        Rig.done(x, 0, "0");
        x.blow(0, false);
        Rig.done(x, 1, "6 take 4 skim 2 pour");
        Check.same("slag in the skull", x.ladle(1, 11), 2);
        Rig.stuffOfLadle(x, 1, 8, 0, 0, 0, 2);
        Rig.booked(x, 3, 2, 0, 0, 2);
    }

    /** Of one slag and of two none comes to the pot or to the furnace. */
    private static void allOfALittleSlag() {
        slagFreezes(Rig.withOneIron(), 1, "2");
        slagFreezes(withTwoCopper(), 2, "2");
        slagFreezes(Rig.withOneIron(), 1, "0");
        slagFreezes(withTwoCopper(), 2, "0");
    }

    private static void slagFreezes(HotAisle x, int units, String place) {
        x.blow(0, true);
        x.minutes(1);
        Rig.stuffOfVessel(x, 0, 0, 0, 0, units);
        int before = x.ladle(0, 11);
        int[] counted = {x.book(5, 4), x.book(6, 4)};
        Rig.done(x, 0, "skim " + place);
        Rig.stuffOfLadle(x, 0, 4, 0, 0, 0, units);
        Rig.doneAtOnce("of " + units + " slag", x, 0, "pour");
        Check.same("slag in the skull", x.ladle(0, 11), before + units);
        Check.same("book(5, 4)", x.book(5, 4), counted[0]);
        Check.same("book(6, 4)", x.book(6, 4), counted[1]);
        Check.same("ladle(0, 2)", x.ladle(0, 2), 0);
    }

    private static void ofMetal() {
        HotAisle x = Rig.withMetal();
        Rig.done(x, 1, "15 pour");
        Rig.stuffOfLadle(x, 1, 8, 2, 0, 0, 0);
        Rig.booked(x, 3, 4, 0, 0, 2);
    }

    /** "a SKULL of 0 to 20": ten pours of nine make it 20, two by two. */
    private static void from18To20() {
        HotAisle x = withSkull(18);
        int[] before = vesselOf(x);
        pourNine(x);
        Rig.stuffOfLadle(x, 0, 8, 20, 0, 0, 0);
        Rig.stuffOfVessel(x, 0, before[0] + 2, before[1] + 3, before[2] + 2, 0);
    }

    /** "less, if the SKULL would be above 20": one of nine. */
    private static void from19To20() {
        HotAisle x = withSkull19();
        int[] before = vesselOf(x);
        pourNine(x);
        Rig.stuffOfLadle(x, 0, 8, 20, 0, 0, 0);
        Rig.stuffOfVessel(x, 0, before[0] + 3, before[1] + 3, before[2] + 2, 0);
    }

    /** None of nine, so all that it held comes. */
    private static void noneAbove20() {
        HotAisle x = withSkull(20);
        int[] before = vesselOf(x);
        pourNine(x);
        Rig.stuffOfLadle(x, 0, 8, 20, 0, 0, 0);
        Rig.stuffOfVessel(x, 0, before[0] + 4, before[1] + 3, before[2] + 2, 0);
        pourNine(x);
        Rig.stuffOfLadle(x, 0, 8, 20, 0, 0, 0);
        Rig.stuffOfVessel(x, 0, before[0] + 8, before[1] + 6, before[2] + 4, 0);
    }

    /** "a SKULL of 0 to 20": 16 copper, one iron, one slag and the next two are 20. */
    private static void allKindsAreOfThe20() {
        HotAisle x = Rig.withCopperAlone();
        Rig.done(x, 0, "0 tap 8 pour 0");
        Rig.stuffOfLadle(x, 0, 8, 4, 0, 0, 2);
        for (int i = 0; i < 7; i++) {
            pourNine(x);
        }
        Rig.stuffOfLadle(x, 0, 8, 18, 0, 0, 2);
        pourNine(x);
        Rig.stuffOfLadle(x, 0, 8, 18, 0, 0, 2);
        x = withIronInTheSkull();
        Rig.done(x, 0, "0");
        pourNine(x);
        pourNine(x);
        Rig.stuffOfLadle(x, 0, 8, 19, 1, 0, 0);
        pourNine(x);
        Rig.stuffOfLadle(x, 0, 8, 19, 1, 0, 0);
        Rig.feed(x, 9);
        Rig.done(x, 0, "tap");
        Check.same("all of the ladle", x.book(2, 1) + x.book(2, 2) + x.book(2, 3), 80);
    }

    /** "(if it holds all that comes)": 80 come of 81, for one freezes. */
    private static void roomInTheVesselAt19() {
        HotAisle x = filledUpTo(withSkull19(), 220);
        Rig.stuffOfLadle(x, 0, 4, 36, 27, 18, 0);
        pourEighty(x);
        Rig.stuffOfLadle(x, 0, 8, 20, 0, 0, 0);
        Refusal.ofOrder("to 301", () -> filledUpTo(withSkull19(), 221), 0, "pour");
    }

    /** 80 come of 80, for none freezes. */
    private static void roomInTheVesselAt20() {
        HotAisle x = filledUpTo(withSkull(20), 220);
        Rig.stuffOfLadle(x, 0, 4, 35, 26, 19, 0);
        pourEighty(x);
        Rig.stuffOfLadle(x, 0, 8, 20, 0, 0, 0);
        Refusal.ofOrder("to 301", () -> filledUpTo(withSkull(20), 221), 0, "pour");
        Refusal.ofOrder("to 302", () -> filledUpTo(withSkull(20), 222), 0, "pour");
    }

    private static void pourEighty(HotAisle x) {
        int heat = x.vessel(0, 0) - 8;
        Rig.doneAtOnce("to 300", x, 0, "pour");
        Check.same("all in the vessel", all(x), 300);
        Check.same("vessel(0, 0)", x.vessel(0, 0), (heat * 220 + 1150 * 80) / 300);
    }

    /** Crane 0 comes from the furnace with all that its ladle may, over vessel 0 with so much. */
    private static HotAisle filledUpTo(HotAisle x, int units) {
        Rig.feed(x, 20);
        Rig.done(x, 0, "tap 4");
        for (int missing = units - all(x); missing > 0; missing -= 50) {
            x.cold(0, Math.min(50, missing));
        }
        Check.same("all in the vessel", all(x), units);
        return x;
    }

    private static int all(HotAisle x) {
        return x.book(1, 1) + x.book(1, 2) + x.book(1, 3) + x.book(1, 4);
    }

    /** "at most 100 less its SKULL": 80, 60, 40 of 180 are 35.5, 26.6 and what is left of 80. */
    private static void twentyLeavesRoomForEighty() {
        HotAisle x = withSkull(20);
        Rig.feed(x, 20);
        Rig.done(x, 0, "tap");
        Rig.stuffOfLadle(x, 0, 4, 35, 26, 19, 0);
        Rig.booked(x, 0, 45, 34, 21, 0);
    }

    /**
     * "COPPER first, then IRON": a tap of 88 leaves 1 copper and 1 iron of 90, and both freeze. No tap leaves
     * sulphur with less than two of copper and iron, so that sulphur never freezes.
     */
    private static void copperFirstThenIron() {
        HotAisle x = withIronInTheSkull();
        Rig.booked(x, 3, 15, 1, 0, 0);
        Rig.done(x, 0, "1 clean");
        Rig.booked(x, 7, 15, 1, 0, 0);
    }

    /** "A SKULL keeps what it is made of": copper from matte, slag from slag, for all that is put in later. */
    private static void keepsWhatItIsMadeOf() {
        HotAisle x = Rig.withCopperAlone();
        Rig.stuffOfLadle(x, 0, 8, 2, 0, 0, 2);
        Rig.done(x, 0, "0 tap");
        Rig.stuffOfLadle(x, 0, 8, 2, 0, 0, 2);
        Rig.stuffOfLadle(x, 0, 4, 4, 3, 1, 0);
        Rig.done(x, 0, "8 pour");
        Rig.stuffOfLadle(x, 0, 8, 4, 0, 0, 2);
        Rig.done(x, 0, "4 draw 3 set");
        Rig.stuffOfLadle(x, 0, 4, 38, 0, 0, 0);
        Rig.stuffOfLadle(x, 0, 8, 4, 0, 0, 2);
        Rig.booked(x, 3, 4, 0, 0, 2);
    }

    private static void noneIfItWaits() {
        HotAisle x = Rig.withMetal();
        Rig.refused(x, 1, "pour");
        Rig.stuffOfLadle(x, 1, 4, 38, 0, 0, 0);
        Rig.stuffOfLadle(x, 1, 8, 0, 0, 0, 0);
    }

    /** Vessel 0 with two copper, hot enough to be blown; crane 0 over it with ladle 0, empty. */
    private static HotAisle withTwoCopper() {
        HotAisle x = Rig.poured(1, 0);
        blowAndSkim(x, "0");
        Rig.feed(x, 1);
        Rig.done(x, 0, "tap 4 pour");
        blowAndSkim(x, "4");
        Rig.stuffOfVessel(x, 0, 2, 0, 0, 0);
        return x;
    }

    /** A minute makes 4 slag of 3 iron and a copper; the crane brings it to the pot, and goes somewhere then. */
    private static void blowAndSkim(HotAisle x, String then) {
        x.blow(0, true);
        x.minutes(1);
        x.blow(0, false);
        Rig.done(x, 0, "skim 2 pour " + then);
    }

    /** Crane 0 at the furnace, which is empty, with ladle 0, empty, so much copper (even) in its skull. */
    private static HotAisle withSkull(int copper) {
        HotAisle x = Rig.then(new HotAisle(), 0, "1 take 0");
        for (int i = 0; i < copper / 2; i++) {
            pourNine(x);
        }
        Rig.stuffOfLadle(x, 0, 8, copper, 0, 0, 0);
        return x;
    }

    /** Crane 0 at 4 with ladle 0, empty, 15 copper and one iron in its skull; the furnace is empty. */
    private static HotAisle withIronInTheSkull() {
        HotAisle x = withSkull(12);
        Rig.feed(x, 10);
        Rig.done(x, 0, "tap");
        Rig.stuffOfLadle(x, 0, 4, 39, 29, 20, 0);
        Rig.booked(x, 0, 1, 1, 0, 0);
        Rig.done(x, 0, "4 pour 0 tap 4 pour");
        Rig.stuffOfLadle(x, 0, 8, 15, 1, 0, 0);
        return x;
    }

    /** A pour of one copper makes it odd. */
    private static HotAisle withSkull19() {
        HotAisle x = Rig.then(Rig.withOneInTheFurnace(), 0, "tap 4 pour 0");
        for (int i = 0; i < 7; i++) {
            pourNine(x);
        }
        Rig.stuffOfLadle(x, 0, 8, 19, 0, 0, 0);
        return x;
    }

    private static void pourNine(HotAisle x) {
        Rig.feed(x, 1);
        Rig.done(x, 0, "tap 4 pour 0");
    }

    private static int[] vesselOf(HotAisle x) {
        return new int[] {x.vessel(0, 2), x.vessel(0, 3), x.vessel(0, 4)};
    }
}
