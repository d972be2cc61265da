/** Promise 8: minutes, and what they do at the wheel and with the cranes on the rail. */
public final class MinutesTest {
    public static void main(String[] args) {
        wrong();
        countsOrders();
        goesAreDoneAtOnce();
        cranesWaitForOneAnother();
        craneZeroGoesFirst();
        theWheelCasts();
        Check.end();
    }

    private static void wrong() {
        HotAisle x = new HotAisle();
        int[] bad = {0, -1, 61, Integer.MIN_VALUE, Integer.MAX_VALUE};
        x.order(0, Rig.GO, 5);
        for (int n : bad) {
            Check.same("minutes(" + n + ")", x.minutes(n), HotAisle.BAD);
        }
        Check.same("count(0)", x.count(0), 0);
        Check.same("crane(0, 0)", x.crane(0, 0), 3);
        Check.same("minutes(1)", x.minutes(1), 0);
        Check.same("count(0)", x.count(0), 1);
        Check.same("minutes(60)", x.minutes(60), 1);
        Check.same("count(0)", x.count(0), 61);
    }

    private static void countsOrders() {
        HotAisle x = new HotAisle();
        Rig.give(x, 0, "1 take 2");
        Rig.give(x, 1, "10 take 11");
        Check.same("minutes(1)", x.minutes(1), 0);
        Check.same("minutes(2): one goes, two are done each", x.minutes(2), 4);
        Check.same("count(6)", x.count(6), 4);
        Check.same("minutes(5)", x.minutes(5), 2);
        Check.same("count(6)", x.count(6), 6);
        Check.same("minutes(5)", x.minutes(5), 0);
    }

    private static void goesAreDoneAtOnce() {
        HotAisle x = new HotAisle();
        Rig.give(x, 0, "3 3 3 3 3 3 3 3");
        Check.same("minutes(1)", x.minutes(1), 8);
        Rig.give(x, 0, "3 3 2");
        Check.same("minutes(1)", x.minutes(1), 2);
        Check.same("crane(0, 0)", x.crane(0, 0), 2);
        Check.same("crane(0, 2): a step ends its minute", x.crane(0, 2), 1);
        Rig.give(x, 0, "1 0");
        Check.same("minutes(1)", x.minutes(1), 1);
        Check.same("crane(0, 0)", x.crane(0, 0), 1);
        Rig.give(x, 1, "11 take");
        Check.same("minutes(1): a wait ends its minute", x.minutes(1), 2);
        Check.same("crane(1, 4)", x.crane(1, 4), 1);
        Check.same("crane(0, 4)", x.crane(0, 4), 0);
    }

    private static void cranesWaitForOneAnother() {
        HotAisle x = new HotAisle();
        Rig.give(x, 0, "11");
        x.minutes(7);
        Check.same("crane(0, 0) beside the other", x.crane(0, 0), 10);
        Check.same("crane(0, 4)", x.crane(0, 4), 0);
        x.minutes(3);
        Check.same("crane(0, 0) beside the other", x.crane(0, 0), 10);
        Check.same("crane(0, 4)", x.crane(0, 4), 3);
        Check.same("crane(1, 4)", x.crane(1, 4), 0);
        Rig.give(x, 1, "10");
        x.minutes(2);
        Check.same("crane(1, 0)", x.crane(1, 0), 11);
        Check.same("crane(0, 4)", x.crane(0, 4), 5);
        Check.same("crane(1, 4)", x.crane(1, 4), 2);
        x.drop(1);
        Rig.give(x, 1, "12");
        x.minutes(1);
        Check.same("crane(0, 4): it looked before the other went", x.crane(0, 4), 6);
        Check.same("crane(1, 0)", x.crane(1, 0), 12);
        Check.same("minutes(2)", x.minutes(2), 2);
        Check.same("crane(0, 0)", x.crane(0, 0), 11);
        Check.same("count(6)", x.count(6), 2);
    }

    /** They stand at 6 and 8: crane 0 takes 7, and crane 1 waits for it. */
    private static void craneZeroGoesFirst() {
        HotAisle x = new HotAisle();
        Rig.give(x, 0, "6");
        Rig.give(x, 1, "8");
        x.minutes(4);
        Rig.give(x, 0, "7");
        Rig.give(x, 1, "7");
        x.minutes(1);
        Check.same("crane(0, 0)", x.crane(0, 0), 7);
        Check.same("crane(1, 0)", x.crane(1, 0), 8);
        Check.same("crane(1, 4)", x.crane(1, 4), 1);
        x.drop(1);
        Rig.give(x, 0, "6");
        Rig.give(x, 1, "7");
        x.minutes(1);
        Check.same("crane(0, 0)", x.crane(0, 0), 6);
        Check.same("crane(1, 0): it looked when the other had gone", x.crane(1, 0), 7);
        Check.same("crane(1, 4)", x.crane(1, 4), 1);
    }

    private static void theWheelCasts() {
        HotAisle x = new HotAisle();
        x.minutes(3);
        Check.same("count(4)", x.count(4), 3);
        Check.same("count(3)", x.count(3), 0);
        castsWhatIsPoured();
        castsToTheLast();
    }

    /** 40 of 42 copper come out at the wheel: eight anodes, with five copper for the last. */
    private static void castsToTheLast() {
        HotAisle x = Rig.withCopperAlone();
        x.cold(0, 4);
        Rig.done(x, 1, "6 take 4 draw 15 pour");
        int starved = x.count(4);
        x.minutes(8);
        Check.same("count(3)", x.count(3), 8);
        Check.same("count(4)", x.count(4), starved);
        x.minutes(1);
        Check.same("count(3) with no copper", x.count(3), 8);
        Check.same("count(4) with no copper", x.count(4), starved + 1);
        Rig.booked(x, 4, 40, 0, 0, 0);
    }

    /** 36 of 38 copper come out at the wheel. */
    private static void castsWhatIsPoured() {
        HotAisle x = Rig.withMetal();
        Rig.done(x, 1, "15 pour");
        int starved = x.count(4);
        Rig.booked(x, 4, 36, 0, 0, 0);
        Check.same("count(4): the wheel comes before the cranes", starved, x.count(0));
        Check.same("count(3): the wheel comes before the cranes", x.count(3), 0);
        x.minutes(1);
        Check.same("count(3)", x.count(3), 1);
        x.minutes(6);
        Check.same("count(3)", x.count(3), 7);
        Check.same("count(4)", x.count(4), starved);
        Rig.booked(x, 4, 36, 0, 0, 0);
        x.minutes(2);
        Check.same("count(3) with one copper", x.count(3), 7);
        Check.same("count(4) with one copper", x.count(4), starved + 2);
        Rig.booked(x, 4, 36, 0, 0, 0);
    }
}
