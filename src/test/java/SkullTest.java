/** The SKULL of a ladle: what freezes to it at a POUR, and what it is made of (promises 8, 11, 13). At 20: FullSkullTest. */
public final class SkullTest {
    public static void main(String[] args) {
        twoOfWhatItHeld();
        twoOfTwo();
        oneOfOne();
        twoOfThree();
        ofSlag();
        allOfALittleSlag();
        ofMetal();
        copperFirstThenIron();
        keepsWhatItIsMadeOf();
        noneIfItWaits();
        Check.end();
    }

    /** "2 of what it held .. do not come out, but to its SKULL: COPPER first". */
    private static void twoOfWhatItHeld() {
        HotAisle x = Rig.poured(1, 0);
        Rig.stuffOfVessel(x, 0, 2, 3, 2, 0);
        Rig.stuffOfLadle(x, 0, 8, 2, 0, 0, 0);
        Rig.booked(x, 3, 2, 0, 0, 0);
    }

    /** Of two drawn none comes to the wheel. */
    private static void twoOfTwo() {
        HotAisle x = Rig.withCopper(2);
        Rig.done(x, 1, "6 take 4 draw 15 pour");
        Rig.booked(x, 4, 0, 0, 0, 0);
        Rig.stuffOfLadle(x, 1, 8, 2, 0, 0, 0);
        Check.same("ladle(1, 2)", x.ladle(1, 2), 0);
    }

    /** "(all, if it was less". */
    private static void oneOfOne() {
        HotAisle x = Rig.withCopper(1);
        Rig.done(x, 1, "6 take 4 draw 15 pour");
        Rig.booked(x, 4, 0, 0, 0, 0);
        Rig.stuffOfLadle(x, 1, 8, 1, 0, 0, 0);
        Check.same("ladle(1, 2)", x.ladle(1, 2), 0);
        x = Rig.withOneInTheFurnace();
        Rig.stuffOfLadle(x, 0, 8, 4, 0, 0, 0);
        Rig.done(x, 0, "tap 4 pour");
        Rig.stuffOfLadle(x, 0, 8, 5, 0, 0, 0);
    }

    private static void twoOfThree() {
        HotAisle x = Rig.withCopper(3);
        Rig.done(x, 1, "6 take 4 draw 15 pour");
        Rig.booked(x, 4, 1, 0, 0, 0);
        Rig.stuffOfLadle(x, 1, 8, 2, 0, 0, 0);
    }

    private static void ofSlag() {
        HotAisle x = Rig.poured(2, 0);
        x.blow(0, true);
        x.minutes(1);
        Rig.done(x, 0, "0");
        x.blow(0, false);
        Rig.done(x, 1, "6 take 4 skim 2 pour");
        Check.same("slag in the skull", x.ladle(1, 11), 2);
        Rig.stuffOfLadle(x, 1, 8, 0, 0, 0, 2);
        Rig.booked(x, 3, 2, 0, 0, 2);
    }

    /** Of one slag and of two none comes to the pot or to the furnace. */
    private static void allOfALittleSlag() {
        slagFreezes(Rig.withOneIron(), 1, "2");
        slagFreezes(withTwoCopper(), 2, "2");
        slagFreezes(Rig.withOneIron(), 1, "0");
        slagFreezes(withTwoCopper(), 2, "0");
    }

    private static void slagFreezes(HotAisle x, int units, String place) {
        x.blow(0, true);
        x.minutes(1);
        Rig.stuffOfVessel(x, 0, 0, 0, 0, units);
        int before = x.ladle(0, 11);
        int[] counted = {x.book(5, 4), x.book(6, 4)};
        Rig.done(x, 0, "skim " + place);
        Rig.stuffOfLadle(x, 0, 4, 0, 0, 0, units);
        Rig.doneAtOnce("of " + units + " slag", x, 0, "pour");
        Check.same("slag in the skull", x.ladle(0, 11), before + units);
        Check.same("book(5, 4)", x.book(5, 4), counted[0]);
        Check.same("book(6, 4)", x.book(6, 4), counted[1]);
        Check.same("ladle(0, 2)", x.ladle(0, 2), 0);
    }

    private static void ofMetal() {
        HotAisle x = Rig.withMetal();
        Rig.done(x, 1, "15 pour");
        Rig.stuffOfLadle(x, 1, 8, 2, 0, 0, 0);
        Rig.booked(x, 3, 4, 0, 0, 2);
    }

    /**
     * "COPPER first, then IRON": a tap of 88 leaves 1 copper and 1 iron of 90, and both freeze. No tap leaves
     * sulphur with less than two of copper and iron, so that sulphur never freezes.
     */
    private static void copperFirstThenIron() {
        HotAisle x = Rig.withIronInTheSkull();
        Rig.booked(x, 3, 15, 1, 0, 0);
        Rig.done(x, 0, "1 clean");
        Rig.booked(x, 7, 15, 1, 0, 0);
    }

    /** "A SKULL keeps what it is made of": copper from matte, slag from slag, for all that is put in later. */
    private static void keepsWhatItIsMadeOf() {
        HotAisle x = Rig.withCopperAlone();
        Rig.stuffOfLadle(x, 0, 8, 2, 0, 0, 2);
        Rig.done(x, 0, "0 tap");
        Rig.stuffOfLadle(x, 0, 8, 2, 0, 0, 2);
        Rig.stuffOfLadle(x, 0, 4, 4, 3, 1, 0);
        Rig.done(x, 0, "8 pour");
        Rig.stuffOfLadle(x, 0, 8, 4, 0, 0, 2);
        Rig.done(x, 0, "4 draw 3 set");
        Rig.stuffOfLadle(x, 0, 4, 38, 0, 0, 0);
        Rig.stuffOfLadle(x, 0, 8, 4, 0, 0, 2);
        Rig.booked(x, 3, 4, 0, 0, 2);
    }

    private static void noneIfItWaits() {
        HotAisle x = Rig.withMetal();
        Rig.refused(x, 1, "pour");
        Rig.stuffOfLadle(x, 1, 4, 38, 0, 0, 0);
        Rig.stuffOfLadle(x, 1, 8, 0, 0, 0, 0);
    }

    /** Vessel 0 with two copper, hot enough to be blown; crane 0 over it with ladle 0, empty. */
    private static HotAisle withTwoCopper() {
        HotAisle x = Rig.poured(1, 0);
        blowAndSkim(x, "0");
        Rig.feed(x, 1);
        Rig.done(x, 0, "tap 4 pour");
        blowAndSkim(x, "4");
        Rig.stuffOfVessel(x, 0, 2, 0, 0, 0);
        return x;
    }

    /** A minute makes 4 slag of 3 iron and a copper; the crane brings it to the pot, and goes somewhere then. */
    private static void blowAndSkim(HotAisle x, String then) {
        x.blow(0, true);
        x.minutes(1);
        x.blow(0, false);
        Rig.done(x, 0, "skim 2 pour " + then);
    }
}
