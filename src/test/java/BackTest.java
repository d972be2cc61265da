/** Promise 16: back. */
public final class BackTest {
    public static void main(String[] args) {
        noneIsKept();
        latestFirst();
        keptNoMore();
        allAsItWas();
        metalAndSlagToo();
        ordersToo();
        lastOfEightOrders();
        lastVesselAndLastLadle();
        copperAtTheWheelToo();
        Check.end();
    }

    /** "NO: none is." */
    private static void noneIsKept() {
        Refusal.ofCall("back()", HotAisle::new, HotAisle::back, HotAisle.NO);
        Refusal.ofCall("back()", Rig::withMetal, HotAisle::back, HotAisle.NO);
        Refusal.ofCall("back(), the third", BackTest::backTwice, HotAisle::back, HotAisle.NO);
    }

    /** All that were kept came back, and then much was done. */
    private static HotAisle backTwice() {
        HotAisle x = Rig.busy();
        x.back();
        x.back();
        Rig.done(x, 0, "clean 3 set");
        x.fed(true);
        x.minutes(5);
        return x;
    }

    /** "the latest first"; "MINUTES then". */
    private static void latestFirst() {
        HotAisle x = new HotAisle();
        for (int i = 0; i < 8; i++) {
            x.minutes(i + 1);
            x.keep();
        }
        x.minutes(60);
        Check.same("keep()", x.keep(), HotAisle.FULL);
        int[] passed = {36, 28, 21, 15, 10, 6, 3, 1};
        for (int i = 0; i < 8; i++) {
            Check.same("back()", x.back(), passed[i]);
            Check.same("count(0)", x.count(0), passed[i]);
            Check.same("count(7)", x.count(7), 7 - i);
        }
        Check.same("back() with none kept", x.back(), HotAisle.NO);
        Check.same("count(0)", x.count(0), 1);
    }

    /** "which is kept no more": what is kept behind a back() is the latest one then. */
    private static void keptNoMore() {
        HotAisle x = new HotAisle();
        x.minutes(3);
        x.keep();
        x.minutes(4);
        x.keep();
        Check.same("back()", x.back(), 7);
        x.minutes(2);
        Check.same("keep()", x.keep(), 2);
        x.minutes(1);
        Check.same("back()", x.back(), 9);
        Check.same("back()", x.back(), 3);
        Check.same("back()", x.back(), HotAisle.NO);
        // A state of no minutes is one too.
        x = new HotAisle();
        x.keep();
        x.minutes(1);
        Check.same("back()", x.back(), 0);
        Check.same("back()", x.back(), HotAisle.NO);
    }

    /** "All is as it was kept last": two states are kept, much is done between and behind them, and each comes back whole. */
    private static void allAsItWas() {
        HotAisle x = fedVessel();
        x.keep();
        blowAndCarry(x);
        x.keep();
        x.fed(false);
        x.limit(0);
        x.cold(0, 9);
        x.blow(0, false);
        x.drop(1);
        Rig.give(x, 1, "14");
        Rig.give(x, 0, "1 clean 0 tap 8 pour");
        x.minutes(60);
        x.minutes(60);
        HotAisle second = fedVessel();
        blowAndCarry(second);
        compare("second", x, 2, second);
        compare("first", x, 1, fedVessel());
        Check.same("back()", x.back(), HotAisle.NO);
    }

    private static HotAisle fedVessel() {
        HotAisle x = Rig.withFullVessel();
        x.fed(true);
        return x;
    }

    private static void blowAndCarry(HotAisle x) {
        x.blow(0, true);
        x.limit(5);
        Rig.give(x, 0, "skim 2 pour");
        Rig.give(x, 1, "10 take 15 set");
        x.minutes(8);
        x.limit(6);
        x.minutes(1);
        Check.same("count(2)", x.count(2), 6);
        Check.same("vessel(0, 6)", x.vessel(0, 6), 2);
    }

    /** Behind what is kept: copper at the wheel, slag given back, a skull cleaned off, a full furnace, a stopped vessel. */
    private static void metalAndSlagToo() {
        HotAisle x = Rig.withMetal();
        x.keep();
        castTwo(x);
        x.keep();
        Rig.done(x, 0, "clean 0 tap 4 pour");
        x.blow(0, true);
        x.minutes(1);
        x.cold(0, 50);
        Rig.done(x, 0, "skim 0 pour 1");
        Check.that("slag is given back", x.book(6, 4) > 0);
        Rig.feed(x, 60);
        Rig.feed(x, 20);
        Check.that("the furnace is full", x.count(5) > 0);
        Check.that("the vessel is stopped", x.vessel(0, 7) > 0);
        Check.that("anodes are cast", x.count(3) > 2);
        HotAisle second = Rig.withMetal();
        castTwo(second);
        compare("second", x, 2, second);
        compare("first", x, 1, Rig.withMetal());
        x.minutes(2);
        Rig.booked(x, 4, 0, 0, 0, 0);
    }

    private static void castTwo(HotAisle x) {
        Rig.done(x, 1, "15 pour");
        x.minutes(2);
        Check.same("count(3)", x.count(3), 2);
    }

    /** All answers are those of an aisle that has come to the same state, but for the states kept. */
    private static void compare(String name, HotAisle x, int kept, HotAisle alike) {
        Check.same("count(7)", x.count(7), kept);
        Check.same("back()", x.back(), alike.count(0));
        int[] now = Rig.answers(x);
        int[] due = Rig.answers(alike);
        for (int i = 0; i < due.length; i++) {
            // count(7) is the third from the end.
            Check.same("answer " + i + " of the " + name + " state", now[i], i == due.length - 3 ? kept - 1 : due[i]);
        }
    }

    /** What is kept has the orders, with their places, and goes on from there. */
    private static void ordersToo() {
        HotAisle x = new HotAisle();
        Rig.give(x, 0, "2 5 6 take 7 set");
        Rig.give(x, 1, "12 13");
        x.minutes(2);
        x.keep();
        x.drop(0);
        x.drop(1);
        Rig.give(x, 0, "0 0 0 0 0 0 0");
        Rig.give(x, 1, "15 15 15 15");
        x.until(50);
        Check.same("back()", x.back(), 2);
        Check.same("crane(0, 2)", x.crane(0, 2), 5);
        Check.same("crane(1, 2)", x.crane(1, 2), 1);
        x.until(50);
        Check.same("ladle(1, 0)", x.ladle(1, 0), 7);
        Check.same("crane(1, 0)", x.crane(1, 0), 13);
    }

    /** The eighth of the orders that are kept is a GO with a place of its own. */
    private static void lastOfEightOrders() {
        for (int crane = 0; crane < 2; crane++) {
            HotAisle x = new HotAisle();
            int place = 6 + crane;
            Rig.give(x, crane, "5 5 5 5 5 5 5 " + place);
            x.keep();
            x.drop(crane);
            Rig.give(x, crane, "9 9 9 9 9 9 9 set");
            x.minutes(1);
            Check.same("back()", x.back(), 0);
            Check.same("crane(" + crane + ", 2)", x.crane(crane, 2), 8);
            x.until(60);
            Check.same("crane(" + crane + ", 0)", x.crane(crane, 0), place);
            Check.same("count(6)", x.count(6), 8);
        }
    }

    /** Crane 1 has ladle 3 over vessel 2: it is kept with matte in it, and when it is poured out. */
    private static void lastVesselAndLastLadle() {
        HotAisle x = matteOverVessel2();
        x.keep();
        pourAndBlow(x);
        x.keep();
        x.cold(2, 50);
        x.minutes(3);
        Rig.done(x, 1, "skim 14 set 11");
        HotAisle second = matteOverVessel2();
        pourAndBlow(second);
        compare("second", x, 2, second);
        compare("first", x, 1, matteOverVessel2());
    }

    private static HotAisle matteOverVessel2() {
        HotAisle x = new HotAisle();
        Rig.feed(x, 11);
        Rig.done(x, 0, "0");
        Rig.done(x, 1, "14 take 3 set 15");
        Rig.done(x, 0, "3 take 0 tap 3 set 0");
        Rig.done(x, 1, "3 take 12");
        return x;
    }

    private static void pourAndBlow(HotAisle x) {
        Rig.done(x, 1, "pour");
        x.blow(2, true);
        x.limit(0);
        x.minutes(7);
        Check.that("it is held", x.vessel(2, 6) > 0);
        Rig.stuffOfLadle(x, 3, 8, 2, 0, 0, 0);
    }

    /** Kept while copper is at the wheel: THE LIMIT (30, and 0), and if the furnace is fed. */
    private static void copperAtTheWheelToo() {
        HotAisle x = copperAtTheWheel();
        x.keep();
        x.limit(0);
        x.fed(false);
        x.minutes(3);
        x.keep();
        x.limit(7);
        x.minutes(9);
        HotAisle second = copperAtTheWheel();
        second.limit(0);
        second.fed(false);
        second.minutes(3);
        compare("second", x, 2, second);
        x.minutes(1);
        Check.same("count(3)", x.count(3), 4);
        Rig.booked(x, 4, 36, 0, 0, 0);
        x.keep();
        x.back();
        compare("first", x, 1, copperAtTheWheel());
        x.minutes(1);
        Check.same("count(3)", x.count(3), 1);
        Rig.booked(x, 4, 36, 0, 0, 0);
    }

    private static HotAisle copperAtTheWheel() {
        HotAisle x = Rig.then(Rig.withMetal(), 1, "15 pour");
        x.limit(30);
        x.fed(true);
        return x;
    }
}
