/** Promise 14: count. */
public final class CountTest {
    public static void main(String[] args) {
        beyond();
        each();
        gasOfTheLatestMinute();
        statesLimitAndFed();
        Check.end();
    }

    /** "BAD." */
    private static void beyond() {
        Refusal.bad("count(#)", 0, 9, HotAisle::count);
    }

    private static void each() {
        HotAisle x = Rig.withMetal();
        // 12 fed; 10 and 1 with 6 orders to the vessel; 10 blown; 6 to the pot and back; 9 for crane 1.
        int passed = x.count(0);
        Check.same("count(0)", passed, 12 + 10 + 10 + 6 + 9);
        Check.same("count(1)", x.count(1), 23);
        Check.same("count(2)", x.count(2), 0);
        Check.same("count(3)", x.count(3), 0);
        Check.same("count(4)", x.count(4), passed);
        Check.same("count(5)", x.count(5), 0);
        Check.same("count(6)", x.count(6), 6 + 4 + 4);
        Check.same("count(7)", x.count(7), 0);
        Check.same("count(8)", x.count(8), 12);
        Check.same("count(9)", x.count(9), 0);
    }

    /** "1 GAS in all, 2 GAS of the latest MINUTE". */
    private static void gasOfTheLatestMinute() {
        HotAisle x = Rig.withFullVessel();
        x.blow(0, true);
        int[] gas = {0, 0, 0, 0, 0, 3, 6, 6, 6, 2, 0};
        int inAll = 0;
        for (int due : gas) {
            x.minutes(1);
            inAll += due;
            Check.same("count(2)", x.count(2), due);
            Check.same("count(1)", x.count(1), inAll);
        }
    }

    /** "7 STATES kept, 8 THE LIMIT, 9 1 fed". */
    private static void statesLimitAndFed() {
        HotAisle x = new HotAisle();
        x.limit(30);
        x.keep();
        x.keep();
        x.fed(true);
        Check.same("count(7)", x.count(7), 2);
        Check.same("count(8)", x.count(8), 30);
        Check.same("count(9)", x.count(9), 1);
        x.back();
        Check.same("count(7)", x.count(7), 1);
        Check.same("count(8)", x.count(8), 30);
        Check.same("count(9)", x.count(9), 0);
    }
}
