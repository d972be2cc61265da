/** ORDER 4, POUR. What freezes to the SKULL: SkullTest. */
public final class PourTest {
    public static void main(String[] args) {
        noLadle();
        emptyLadle();
        matteElsewhere();
        slagElsewhere();
        metalElsewhere();
        matteIntoAVessel();
        heatOfBothTogetherIsCut();
        bothAreCutTogether();
        slagIsHeldToo();
        upToThreeHundredWithSlag();
        heatOfAnEmptiedVessel();
        upToThreeHundred();
        notTo301();
        nothingComes();
        nothingComesIntoAnEmptiedOne();
        nothingComesIntoAFullOne();
        blownToo();
        emptiedAndStillBlown();
        slagToThePot();
        slagToTheFurnace();
        slagDoesNotFillTheFurnace();
        metalToTheWheel();
        Check.end();
    }

    private static void noLadle() {
        Refusal.ofOrder("with none", () -> Rig.then(Rig.poured(1, 0), 0, "3 set 4"), 0, "pour");
    }

    /** "POUR, of a LADLE that is not EMPTY". */
    private static void emptyLadle() {
        Refusal.ofOrder("of nothing", () -> Rig.poured(1, 0), 0, "pour");
        Refusal.ofOrder("of nothing", () -> Rig.then(new HotAisle(), 0, "1 take 0"), 0, "pour");
        Refusal.ofOrder("of nothing", () -> Rig.then(new HotAisle(), 0, "1 take 2"), 0, "pour");
        Refusal.ofOrder("of nothing", () -> Rig.then(new HotAisle(), 1, "14 take 15"), 1, "pour");
    }

    /** "MATTE into a VESSEL": PlaceTest has all the other places. */
    private static void matteElsewhere() {
        Refusal.ofOrder("of matte at 0", PourTest::tapped, 0, "pour");
        Refusal.ofOrder("of matte at 2", () -> Rig.then(tapped(), 0, "2"), 0, "pour");
        Refusal.ofOrder("of matte at 3", () -> Rig.then(tapped(), 0, "3"), 0, "pour");
        Refusal.ofOrder("of matte at 15", () -> {
            HotAisle x = Rig.then(tapped(), 0, "3 set 0");
            return Rig.then(x, 1, "3 take 15");
        }, 1, "pour");
    }

    /** "SLAG at THE POT or THE FURNACE". */
    private static void slagElsewhere() {
        Refusal.ofOrder("of slag at 4", PourTest::skimmed, 0, "pour");
        Refusal.ofOrder("of slag at 1", () -> Rig.then(skimmed(), 0, "1"), 0, "pour");
        Refusal.ofOrder("of slag at 3", () -> Rig.then(skimmed(), 0, "3"), 0, "pour");
    }

    /** "METAL at THE WHEEL". */
    private static void metalElsewhere() {
        int[] places = {2, 4, 8, 14};
        for (int place : places) {
            Refusal.ofOrder("of metal at " + place, () -> Rig.then(Rig.withMetal(), 1, String.valueOf(place)), 1, "pour");
        }
        Refusal.ofOrder("of metal at 0", () -> Rig.then(Rig.withCopper(9), 0, "4 draw 0"), 0, "pour");
    }

    /** "MATTE into a VESSEL"; "The LADLE is EMPTY then". */
    private static void matteIntoAVessel() {
        for (int vessel = 0; vessel < 3; vessel++) {
            HotAisle x = tapped();
            Rig.done(x, 1, "15");
            Rig.done(x, 0, String.valueOf(4 * vessel + 4));
            Rig.doneAtOnce("of matte", x, 0, "pour");
            Rig.stuffOfVessel(x, vessel, 10, 9, 6, 0);
            Rig.booked(x, 1, 10, 9, 6, 0);
            Check.same("vessel(" + vessel + ", 0)", x.vessel(vessel, 0), 1150);
            Check.same("ladle(0, 2)", x.ladle(0, 2), 0);
            Rig.stuffOfLadle(x, 0, 4, 0, 0, 0, 0);
            Rig.stuffOfLadle(x, 0, 8, 2, 0, 0, 0);
        }
    }

    /** "HEAT becomes HEAT times what it held and 1150 times what came, by both together, cut": 98 at 1062 and 96 are 1105.5. */
    private static void heatOfBothTogetherIsCut() {
        HotAisle x = new HotAisle();
        Rig.feed(x, 60);
        Rig.done(x, 0, "1 take 0 tap 4 pour 0 tap");
        Rig.stuffOfLadle(x, 0, 4, 43, 32, 23, 0);
        Rig.done(x, 0, "4");
        Check.same("vessel(0, 0)", x.vessel(0, 0), 1150 - 10 * 8);
        Rig.doneAtOnce("of matte", x, 0, "pour");
        Check.same("vessel(0, 0)", x.vessel(0, 0), 1105);
        Rig.stuffOfVessel(x, 0, 42 + 41, 33 + 32, 23 + 23, 0);
    }

    /** 98 at 966 are 487.98 of 194, and 96 at 1150 are 569.07: 1057.05, which is more than 487 and 569. */
    private static void bothAreCutTogether() {
        HotAisle x = new HotAisle();
        Rig.feed(x, 60);
        Rig.done(x, 0, "1 take 0 tap 4 pour 0 tap");
        Rig.done(x, 0, "4");
        x.minutes(12);
        Check.same("vessel(0, 0)", x.vessel(0, 0), 974);
        Rig.doneAtOnce("of matte", x, 0, "pour");
        Check.same("vessel(0, 0)", x.vessel(0, 0), 1057);
    }

    /** "what it held": its slag too. 5 slag at 1156 grow cold for 7 minutes, and 7 of 9 come to them. */
    private static void slagIsHeldToo() {
        HotAisle x = Rig.poured(1, 0);
        x.blow(0, true);
        x.minutes(2);
        x.blow(0, false);
        Rig.stuffOfVessel(x, 0, 0, 0, 0, 5);
        Check.same("vessel(0, 0)", x.vessel(0, 0), 1156);
        Rig.done(x, 0, "0");
        Rig.feed(x, 1);
        Rig.done(x, 0, "tap 4");
        int heat = x.vessel(0, 0) - 8;
        Rig.doneAtOnce("of matte", x, 0, "pour");
        Check.same("vessel(0, 0)", x.vessel(0, 0), (heat * 5 + 1150 * 7) / 12);
        Rig.stuffOfVessel(x, 0, 2, 3, 2, 5);
    }

    /** Six of the units that the vessel holds are slag: 94 come to 206, and do not come to 207. */
    private static void upToThreeHundredWithSlag() {
        HotAisle x = sixSlagAmong(206);
        Rig.doneAtOnce("to 300", x, 0, "pour");
        Check.same("all in the vessel", x.book(1, 1) + x.book(1, 2) + x.book(1, 3) + x.book(1, 4), 300);
        Refusal.ofOrder("to 301", () -> sixSlagAmong(207), 0, "pour");
    }

    private static HotAisle sixSlagAmong(int units) {
        HotAisle x = with96Over(194);
        x.blow(0, true);
        x.minutes(1);
        x.blow(0, false);
        Check.same("vessel(0, 5)", x.vessel(0, 5), 6);
        return Rig.cooled(x, 0, units - 194);
    }

    /** What it held is nothing, so its old heat counts for nothing, even if one unit comes alone. */
    private static void heatOfAnEmptiedVessel() {
        HotAisle x = Rig.poured(1, 0);
        x.blow(0, true);
        x.minutes(2);
        x.blow(0, false);
        Rig.done(x, 0, "skim");
        Check.same("vessel(0, 0)", x.vessel(0, 0), 1148);
        x = Rig.withOneIron();
        Check.same("vessel(0, 0)", x.vessel(0, 0), 1150);
    }

    /** "VESSELS hold .. at most 300 together"; "(if it holds all that comes)": 206 and the 94 that come of 96. */
    private static void upToThreeHundred() {
        HotAisle x = with96Over(206);
        Rig.doneAtOnce("to 300", x, 0, "pour");
        Check.same("all in the vessel", x.book(1, 1) + x.book(1, 2) + x.book(1, 3), 300);
        Check.same("ladle(0, 2)", x.ladle(0, 2), 0);
        Rig.stuffOfLadle(x, 0, 8, 6, 0, 0, 0);
    }

    private static void notTo301() {
        Refusal.ofOrder("to 301", () -> with96Over(207), 0, "pour");
        Refusal.ofOrder("to 350", () -> with96Over(256), 0, "pour");
    }

    /** "(if nothing came, HEAT stays)": one copper freezes to the ladle, over a filled vessel and over an empty one. */
    private static void nothingComes() {
        HotAisle x = withOneCopper();
        Rig.done(x, 0, "4");
        int heat = x.vessel(0, 0);
        Rig.doneAtOnce("of one", x, 0, "pour");
        Check.same("vessel(0, 0)", x.vessel(0, 0), heat - 8);
        Rig.stuffOfVessel(x, 0, 43, 36, 24, 0);
        Rig.stuffOfLadle(x, 0, 8, 5, 0, 0, 0);
        Check.same("ladle(0, 2)", x.ladle(0, 2), 0);
        nothingComesIntoAnEmptyOne(1);
        nothingComesIntoAnEmptyOne(2);
    }

    private static void nothingComesIntoAnEmptyOne(int vessel) {
        HotAisle x = Rig.then(withOneCopper(), 1, "15");
        Rig.done(x, 0, String.valueOf(4 * vessel + 4));
        Rig.doneAtOnce("of one", x, 0, "pour");
        Check.same("heat of an empty one", x.vessel(vessel, 0), 1150);
        Rig.stuffOfVessel(x, vessel, 0, 0, 0, 0);
        Check.same("blow(" + vessel + ", true)", x.blow(vessel, true), HotAisle.NO);
        Rig.stuffOfLadle(x, 0, 8, 5, 0, 0, 0);
        Check.same("ladle(0, 2)", x.ladle(0, 2), 0);
    }

    /** An emptied vessel keeps the heat that it had, though what it holds and what comes are both nothing; blown or not. */
    private static void nothingComesIntoAnEmptiedOne() {
        nothingComesIntoAnEmptied(true);
        nothingComesIntoAnEmptied(false);
    }

    private static void nothingComesIntoAnEmptied(boolean blown) {
        HotAisle x = Rig.poured(1, 0);
        x.blow(0, true);
        x.minutes(2);
        x.blow(0, blown);
        Rig.done(x, 0, "3 set 6 take 4 skim 6 set");
        Rig.stuffOfVessel(x, 0, 0, 0, 0, 0);
        int heat = x.vessel(0, 0);
        Check.that("it is not the first heat", heat != 1150);
        Rig.done(x, 0, "3 take 0");
        Rig.feed(x, 11);
        Rig.done(x, 0, "tap 8 pour 0 tap 4");
        Rig.stuffOfLadle(x, 0, 4, 1, 0, 0, 0);
        Rig.doneAtOnce("of one", x, 0, "pour");
        x.minutes(1);
        Check.same("vessel(0, 0)", x.vessel(0, 0), heat);
        Check.same("vessel(0, 1)", x.vessel(0, 1), blown ? 1 : 0);
        Rig.stuffOfVessel(x, 0, 0, 0, 0, 0);
    }

    /** Nothing is not too much for one that holds 300. */
    private static void nothingComesIntoAFullOne() {
        HotAisle x = Rig.then(withOneCopper(), 0, "4");
        Rig.cooled(x, 0, 50, 50, 50, 47);
        int heat = x.vessel(0, 0);
        Rig.doneAtOnce("of one", x, 0, "pour");
        Rig.stuffOfVessel(x, 0, 43 + 197, 36, 24, 0);
        Check.same("vessel(0, 0)", x.vessel(0, 0), heat - 8);
        Rig.stuffOfLadle(x, 0, 8, 5, 0, 0, 0);
    }

    private static void blownToo() {
        HotAisle x = Rig.poured(3, 0);
        Rig.done(x, 0, "0");
        Rig.feed(x, 1);
        Rig.done(x, 0, "tap 4");
        x.blow(0, true);
        Rig.doneAtOnce("of matte", x, 0, "pour");
        Rig.stuffOfVessel(x, 0, 10 + 2, 3 + 3, 6 + 2, 6);
        Check.same("vessel(0, 1)", x.vessel(0, 1), 1);
    }

    /** It lost its last unit while it was blown; what is poured into it is blown from the next minute on. */
    private static void emptiedAndStillBlown() {
        HotAisle x = Rig.poured(1, 0);
        x.blow(0, true);
        x.minutes(2);
        Rig.done(x, 0, "skim 2 pour 0");
        Rig.stuffOfVessel(x, 0, 0, 0, 0, 0);
        Rig.feed(x, 3);
        Rig.done(x, 0, "tap 4");
        Rig.doneAtOnce("of matte", x, 0, "pour");
        Rig.stuffOfVessel(x, 0, 10, 9, 6, 0);
        Check.same("vessel(0, 0)", x.vessel(0, 0), 1150);
        Check.same("vessel(0, 1)", x.vessel(0, 1), 1);
        x.minutes(1);
        Rig.stuffOfVessel(x, 0, 10, 3, 6, 6);
        Check.same("vessel(0, 0)", x.vessel(0, 0), 1150 + 24 - 8);
    }

    /** "(it is gone there, counted)": of twelve ten come. */
    private static void slagToThePot() {
        HotAisle x = Rig.then(skimmed(), 0, "2");
        Rig.doneAtOnce("of slag", x, 0, "pour");
        Rig.booked(x, 5, 0, 0, 0, 10);
        Rig.booked(x, 6, 0, 0, 0, 0);
        Rig.stuffOfLadle(x, 0, 4, 0, 0, 0, 0);
        Rig.stuffOfLadle(x, 0, 8, 2, 0, 0, 2);
        Check.same("ladle(0, 2)", x.ladle(0, 2), 0);
    }

    private static void slagToTheFurnace() {
        HotAisle x = Rig.then(skimmed(), 0, "0");
        Rig.doneAtOnce("of slag", x, 0, "pour");
        Rig.booked(x, 6, 0, 0, 0, 10);
        Rig.booked(x, 5, 0, 0, 0, 0);
        Rig.booked(x, 0, 4, 3, 1, 0);
        Rig.stuffOfLadle(x, 0, 8, 2, 0, 0, 2);
        Check.same("ladle(0, 2)", x.ladle(0, 2), 0);
    }

    /** "6 given back to THE FURNACE (SLAG; it does not fill it)": eight and 64 minutes are 584, and one more is 593. */
    private static void slagDoesNotFillTheFurnace() {
        HotAisle x = Rig.then(skimmed(), 0, "0 pour");
        Rig.booked(x, 6, 0, 0, 0, 10);
        Rig.feed(x, 60);
        Rig.feed(x, 4);
        Rig.booked(x, 0, 260, 195, 129, 0);
        Rig.feed(x, 1);
        Rig.booked(x, 0, 264, 198, 131, 0);
        Check.same("count(5)", x.count(5), 0);
        Rig.booked(x, 6, 0, 0, 0, 10);
        // Nor does it come out again.
        Rig.done(x, 0, "tap");
        Rig.stuffOfLadle(x, 0, 4, 42, 32, 22, 0);
    }

    private static void metalToTheWheel() {
        HotAisle x = Rig.then(Rig.withMetal(), 1, "15");
        Rig.doneAtOnce("of metal", x, 1, "pour");
        Rig.booked(x, 4, 36, 0, 0, 0);
        Rig.stuffOfLadle(x, 1, 4, 0, 0, 0, 0);
        Rig.stuffOfLadle(x, 1, 8, 2, 0, 0, 0);
        Check.same("ladle(1, 2)", x.ladle(1, 2), 0);
    }

    /** Crane 0 at the furnace with 12, 9, 6 in ladle 0. */
    private static HotAisle tapped() {
        HotAisle x = new HotAisle();
        Rig.feed(x, 3);
        return Rig.then(x, 0, "1 take 0 tap");
    }

    /** Crane 0 at 4 with twelve slag in ladle 0, 2 copper in its skull. */
    private static HotAisle skimmed() {
        HotAisle x = Rig.withFullVessel();
        x.blow(0, true);
        x.minutes(2);
        x.blow(0, false);
        Rig.done(x, 0, "skim");
        Rig.stuffOfLadle(x, 0, 4, 0, 0, 0, 12);
        return x;
    }

    /** Crane 0 with 96 of matte over vessel 0, which holds so much (194 to 300). */
    private static HotAisle with96Over(int units) {
        HotAisle x = new HotAisle();
        Rig.feed(x, 60);
        Rig.done(x, 0, "1 take 0 tap 4 pour 0 tap");
        Rig.done(x, 0, "4 pour 0 tap 4");
        Rig.stuffOfVessel(x, 0, 83, 65, 46, 0);
        for (int missing = units - 194; missing > 0; missing -= 50) {
            x.cold(0, Math.min(50, missing));
        }
        Check.same("all in the vessel", x.book(1, 1) + x.book(1, 2) + x.book(1, 3), units);
        return x;
    }

    /** Crane 0 at the furnace with one copper in ladle 0, 4 in its skull; vessel 0 has 43, 36, 24. */
    private static HotAisle withOneCopper() {
        HotAisle x = Rig.then(Rig.withOneInTheFurnace(), 0, "tap");
        Rig.stuffOfLadle(x, 0, 4, 1, 0, 0, 0);
        Rig.stuffOfLadle(x, 0, 8, 4, 0, 0, 0);
        Rig.stuffOfVessel(x, 0, 43, 36, 24, 0);
        return x;
    }
}
