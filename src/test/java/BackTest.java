/** Promise 16: back. */
public final class BackTest {
    public static void main(String[] args) {
        Check.same("back() of a new one", new HotAisle().back(), HotAisle.NO);
        latestFirst();
        allAsItWas();
        metalAndSlagToo();
        ordersToo();
        Check.end();
    }

    private static void latestFirst() {
        HotAisle x = new HotAisle();
        for (int i = 0; i < 8; i++) {
            x.minutes(i + 1);
            x.keep();
        }
        x.minutes(60);
        Check.same("keep()", x.keep(), HotAisle.FULL);
        int[] passed = {36, 28, 21, 15, 10, 6, 3, 1};
        for (int i = 0; i < 8; i++) {
            Check.same("back()", x.back(), passed[i]);
            Check.same("count(0)", x.count(0), passed[i]);
            Check.same("count(7)", x.count(7), 7 - i);
        }
        Check.same("back() with none kept", x.back(), HotAisle.NO);
        Check.same("count(0)", x.count(0), 1);
    }

    /** Two states are kept, much is done between and behind them, and each comes back whole. */
    private static void allAsItWas() {
        HotAisle x = Rig.withFullVessel();
        x.fed(true);
        int[] first = Rig.answers(x);
        x.keep();
        x.blow(0, true);
        x.limit(5);
        Rig.give(x, 0, "skim 2 pour");
        Rig.give(x, 1, "10 take 15 set");
        x.minutes(8);
        x.limit(6);
        x.minutes(1);
        Check.same("count(2)", x.count(2), 6);
        int[] second = Rig.answers(x);
        x.keep();
        x.fed(false);
        x.limit(0);
        x.cold(0, 9);
        x.blow(0, false);
        x.drop(1);
        Rig.give(x, 1, "14");
        Rig.give(x, 0, "1 clean 0 tap 8 pour");
        x.minutes(60);
        x.minutes(60);
        compare("second", x, 2, second);
        compare("first", x, 1, first);
        Check.same("back()", x.back(), HotAisle.NO);
    }

    /** Behind what is kept: copper at the wheel, slag given back, a skull cleaned off, a full furnace, a stopped vessel. */
    private static void metalAndSlagToo() {
        HotAisle x = Rig.withMetal();
        int[] first = Rig.answers(x);
        x.keep();
        Rig.done(x, 1, "15 pour");
        x.minutes(2);
        int[] second = Rig.answers(x);
        x.keep();
        Rig.done(x, 0, "clean 0 tap 4 pour");
        x.blow(0, true);
        x.minutes(1);
        x.cold(0, 50);
        Rig.done(x, 0, "skim 0 pour 1");
        Check.that("slag is given back", x.book(6, 4) > 0);
        Rig.feed(x, 60);
        Rig.feed(x, 20);
        Check.that("the furnace is full", x.count(5) > 0);
        Check.that("the vessel is stopped", x.vessel(0, 7) > 0);
        Check.that("anodes are cast", x.count(3) > 2);
        compare("second", x, 2, second);
        compare("first", x, 1, first);
        x.minutes(2);
        Rig.booked(x, 4, 0, 0, 0, 0);
    }

    private static void compare(String name, HotAisle x, int kept, int[] due) {
        Check.same("count(7)", x.count(7), kept);
        x.back();
        int[] now = Rig.answers(x);
        for (int i = 0; i < due.length; i++) {
            Check.same("answer " + i + " of the " + name + " state", now[i], due[i]);
        }
    }

    /** What is kept has the orders, with their places, and goes on from there. */
    private static void ordersToo() {
        HotAisle x = new HotAisle();
        Rig.give(x, 0, "2 5 6 take 7 set");
        Rig.give(x, 1, "12 13");
        x.minutes(2);
        x.keep();
        x.drop(0);
        x.drop(1);
        Rig.give(x, 0, "0 0 0 0 0 0 0");
        Rig.give(x, 1, "15 15 15 15");
        x.until(50);
        Check.same("back()", x.back(), 2);
        Check.same("crane(0, 2)", x.crane(0, 2), 5);
        Check.same("crane(1, 2)", x.crane(1, 2), 1);
        x.until(50);
        Check.same("ladle(1, 0)", x.ladle(1, 0), 7);
        Check.same("crane(1, 0)", x.crane(1, 0), 13);
    }
}
