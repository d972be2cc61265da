/** Promise 8: minutes. What a minute does: FedTest, PartsTest, HeatTest, GasTest, WheelTest, RailTest. */
public final class MinutesTest {
    public static void main(String[] args) {
        leastAndMost();
        beyond();
        countsOrders();
        countsOfTheseMinutesAlone();
        Check.end();
    }

    /** "n MINUTES (1 to 60)". */
    private static void leastAndMost() {
        HotAisle x = new HotAisle();
        Check.same("minutes(1)", x.minutes(1), 0);
        Check.same("count(0)", x.count(0), 1);
        Check.same("minutes(60)", x.minutes(60), 0);
        Check.same("count(0)", x.count(0), 61);
        Check.same("count(4)", x.count(4), 61);
    }

    /** "BAD." */
    private static void beyond() {
        Refusal.bad("minutes(#)", 1, 60, HotAisle::minutes);
    }

    /** "how many ORDERS were done": of both cranes, GO too. */
    private static void countsOrders() {
        HotAisle x = new HotAisle();
        Rig.give(x, 0, "1 take 2");
        Rig.give(x, 1, "10 take 11");
        Check.same("minutes(1)", x.minutes(1), 0);
        Check.same("minutes(2): one goes, two are done each", x.minutes(2), 4);
        Check.same("count(6)", x.count(6), 4);
        Check.same("minutes(5)", x.minutes(5), 2);
        Check.same("count(6)", x.count(6), 6);
        Check.same("minutes(5)", x.minutes(5), 0);
    }

    /** Neither what was done before nor what only waits. */
    private static void countsOfTheseMinutesAlone() {
        HotAisle x = new HotAisle();
        Rig.done(x, 0, "1 take 3");
        Check.same("count(6)", x.count(6), 3);
        Rig.give(x, 0, "set 4 set");
        Check.same("minutes(60)", x.minutes(60), 2);
        Check.same("count(6)", x.count(6), 5);
    }
}
