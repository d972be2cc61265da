/** ORDER 5, SKIM. */
public final class SkimTest {
    public static void main(String[] args) {
        noSlag();
        noLadle();
        noVessel();
        withMatteOrMetal();
        intoAnEmptyLadle();
        intoOneOfSlag();
        theLastOne();
        asMuchAsTheLadleMay();
        asMuchAsIsLeftOfTheLadle();
        fullLadle();
        lessItsSkull();
        skullOfTwenty();
        blownToo();
        everyVessel();
        Check.end();
    }

    /** "SLAG comes, as much as may (above 0)". */
    private static void noSlag() {
        Refusal.ofOrder("of matte alone", Rig::withFullVessel, 0, "skim");
        Refusal.ofOrder("of copper alone", () -> Rig.then(Rig.withCopper(9), 0, "4"), 0, "skim");
        Refusal.ofOrder("of nothing", () -> Rig.then(new HotAisle(), 0, "1 take 4"), 0, "skim");
        // A ladle of slag finds no more.
        Refusal.ofOrder("a second time", () -> Rig.then(slagInVessel(1), 0, "skim"), 0, "skim");
    }

    private static void noLadle() {
        Refusal.ofOrder("with none", () -> Rig.then(slagInVessel(1), 0, "3 set 4"), 0, "skim");
    }

    /** "at a VESSEL": PlaceTest has all the other places. */
    private static void noVessel() {
        Refusal.ofOrder("at 3", () -> Rig.then(slagInVessel(1), 0, "3"), 0, "skim");
        Refusal.ofOrder("at 5", () -> Rig.then(slagInVessel(1), 0, "5"), 0, "skim");
    }

    /** "with a LADLE EMPTY or of SLAG". */
    private static void withMatteOrMetal() {
        Refusal.ofOrder("with matte", () -> Rig.then(slagInVessel(1), 0, "0 tap 4"), 0, "skim");
        Refusal.ofOrder("with metal", SkimTest::metalOverSlag, 0, "skim");
    }

    private static void intoAnEmptyLadle() {
        HotAisle x = slagInVessel(2);
        Rig.doneAtOnce("of twelve", x, 0, "skim");
        Rig.stuffOfLadle(x, 0, 4, 0, 0, 0, 12);
        Rig.stuffOfVessel(x, 0, 42, 21, 23, 0);
        Check.same("ladle(0, 2)", x.ladle(0, 2), 2);
    }

    private static void intoOneOfSlag() {
        HotAisle x = Rig.then(slagInVessel(2), 0, "skim");
        x.blow(0, true);
        x.minutes(1);
        x.blow(0, false);
        Rig.doneAtOnce("of six more", x, 0, "skim");
        Rig.stuffOfLadle(x, 0, 4, 0, 0, 0, 18);
        Rig.stuffOfVessel(x, 0, 42, 15, 23, 0);
        Check.same("ladle(0, 2)", x.ladle(0, 2), 2);
    }

    /** "above 0": one. */
    private static void theLastOne() {
        HotAisle x = Rig.withOneIron();
        x.blow(0, true);
        x.minutes(1);
        Rig.stuffOfVessel(x, 0, 0, 0, 0, 1);
        Rig.doneAtOnce("of one", x, 0, "skim");
        Rig.stuffOfLadle(x, 0, 4, 0, 0, 0, 1);
        Rig.stuffOfVessel(x, 0, 0, 0, 0, 0);
        Check.same("ladle(0, 2)", x.ladle(0, 2), 2);
    }

    /** A ladle with no skull may 100 of 106. */
    private static void asMuchAsTheLadleMay() {
        HotAisle x = Rig.then(slag106(), 0, "0");
        Rig.done(x, 1, "6 take 4");
        Rig.doneAtOnce("of 106", x, 1, "skim");
        Rig.stuffOfLadle(x, 1, 4, 0, 0, 0, 100);
        Check.same("vessel(0, 5)", x.vessel(0, 5), 6);
    }

    /** With 66 in it and a skull of 4, a ladle may 30 of 40. */
    private static void asMuchAsIsLeftOfTheLadle() {
        HotAisle x = Rig.withTwoLadles();
        x.blow(0, true);
        x.minutes(11);
        x.cold(0, 20);
        Rig.doneAtOnce("of 66", x, 0, "skim");
        Rig.stuffOfLadle(x, 0, 4, 0, 0, 0, 66);
        x.minutes(13);
        x.blow(0, false);
        Rig.stuffOfVessel(x, 0, 64, 0, 0, 40);
        Rig.doneAtOnce("of 40", x, 0, "skim");
        Rig.stuffOfLadle(x, 0, 4, 0, 0, 0, 96);
        Check.same("vessel(0, 5)", x.vessel(0, 5), 10);
    }

    private static void fullLadle() {
        Refusal.ofOrder("with 100", () -> {
            HotAisle x = Rig.then(slag106(), 0, "0");
            return Rig.then(x, 1, "6 take 4 skim");
        }, 1, "skim");
        Refusal.ofOrder("with 96", () -> Rig.then(slag106(), 0, "skim"), 0, "skim");
    }

    /** "at most 100 less its SKULL": four copper, then two slag more. */
    private static void lessItsSkull() {
        HotAisle x = slag106();
        Rig.stuffOfLadle(x, 0, 8, 4, 0, 0, 0);
        Rig.doneAtOnce("of 106", x, 0, "skim");
        Rig.stuffOfLadle(x, 0, 4, 0, 0, 0, 96);
        Check.same("vessel(0, 5)", x.vessel(0, 5), 10);
        Rig.done(x, 0, "2 pour");
        Rig.booked(x, 5, 0, 0, 0, 94);
        Rig.stuffOfLadle(x, 0, 8, 4, 0, 0, 2);
        Rig.done(x, 0, "4 skim");
        Rig.stuffOfLadle(x, 0, 4, 0, 0, 0, 10);
        Check.same("vessel(0, 5)", x.vessel(0, 5), 0);
    }

    /** A ladle with a skull of 20 may 80 of 106, and all of them come to the pot. */
    private static void skullOfTwenty() {
        HotAisle x = Rig.then(slag106(), 0, "0");
        for (int i = 0; i < 8; i++) {
            Rig.pourNine(x, 1);
        }
        Rig.stuffOfLadle(x, 0, 8, 20, 0, 0, 0);
        Rig.done(x, 0, "4");
        Rig.doneAtOnce("with a skull of 20", x, 0, "skim");
        Rig.stuffOfLadle(x, 0, 4, 0, 0, 0, 80);
        Check.same("vessel(0, 5)", x.vessel(0, 5), 26);
        Rig.refused(x, 0, "skim");
        Rig.done(x, 0, "2 pour");
        Rig.booked(x, 5, 0, 0, 0, 80);
        Rig.stuffOfLadle(x, 0, 8, 20, 0, 0, 0);
    }

    /** A vessel that is blown is skimmed behind its parts. */
    private static void blownToo() {
        HotAisle x = Rig.withFullVessel();
        x.blow(0, true);
        Rig.doneAtOnce("of six", x, 0, "skim");
        Rig.stuffOfLadle(x, 0, 4, 0, 0, 0, 6);
        Check.same("vessel(0, 1)", x.vessel(0, 1), 1);
    }

    /** What is skimmed comes from the vessel that is there. */
    private static void everyVessel() {
        HotAisle x = Rig.withTwoVessels();
        x.blow(0, true);
        x.blow(1, true);
        x.minutes(1);
        x.blow(0, false);
        x.blow(1, false);
        Rig.doneAtOnce("at 8", x, 0, "skim");
        Check.same("vessel(0, 5)", x.vessel(0, 5), 6);
        Check.same("vessel(1, 5)", x.vessel(1, 5), 0);
        Rig.done(x, 0, "4");
        Rig.doneAtOnce("at 4", x, 0, "skim");
        Rig.stuffOfLadle(x, 0, 4, 0, 0, 0, 12);
        Check.same("vessel(0, 5)", x.vessel(0, 5), 0);
    }

    /** A full vessel that was blown so many minutes: six slag for each; crane 0 over it with ladle 0, empty. */
    private static HotAisle slagInVessel(int minutes) {
        HotAisle x = Rig.withFullVessel();
        x.blow(0, true);
        x.minutes(minutes);
        x.blow(0, false);
        return x;
    }

    /** Crane 0 over vessel 1 with metal in ladle 0, and six slag in the vessel. */
    private static HotAisle metalOverSlag() {
        HotAisle x = Rig.withTwoVessels();
        x.blow(0, true);
        x.minutes(5);
        x.blow(0, false);
        x.blow(1, true);
        x.minutes(1);
        x.blow(1, false);
        Rig.done(x, 0, "4 skim 2 pour 4 draw 8");
        Check.same("ladle(0, 2)", x.ladle(0, 2), 3);
        Rig.stuffOfVessel(x, 1, 22, 12, 12, 6);
        return x;
    }

    /** Vessel 0 with 106 slag: 25 minutes, with 20 copper added, or it would be too hot; crane 0 over it, a skull of 4. */
    private static HotAisle slag106() {
        HotAisle x = Rig.withTwoLadles();
        x.blow(0, true);
        x.minutes(11);
        x.cold(0, 20);
        x.minutes(14);
        x.blow(0, false);
        Rig.stuffOfVessel(x, 0, 64, 0, 0, 106);
        return x;
    }
}
