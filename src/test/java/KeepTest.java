/** Promise 15: keep. */
public final class KeepTest {
    public static void main(String[] args) {
        upToEight();
        noNinth();
        changesNothingElse();
        roomAgain();
        Check.end();
    }

    /** "All is kept: how many STATES are." */
    private static void upToEight() {
        HotAisle x = new HotAisle();
        for (int i = 1; i <= 8; i++) {
            Check.same("keep()", x.keep(), i);
            Check.same("count(7)", x.count(7), i);
        }
    }

    /** "8 STATES are kept by keep()"; "FULL: 8." */
    private static void noNinth() {
        Refusal.ofCall("keep(), the ninth", KeepTest::keptEight, HotAisle::keep, HotAisle.FULL);
        HotAisle x = keptEight();
        x.keep();
        Check.same("keep(), the tenth", x.keep(), HotAisle.FULL);
        Check.same("count(7)", x.count(7), 8);
    }

    private static void changesNothingElse() {
        HotAisle x = Rig.busy();
        int[] before = Rig.answers(x);
        Check.same("keep()", x.keep(), 3);
        int[] after = Rig.answers(x);
        for (int i = 0; i < before.length; i++) {
            // Only count(7), the third from the end, is another one.
            Check.same("answer " + i, after[i], i == before.length - 3 ? 3 : before[i]);
        }
    }

    /** One that comes back makes room for one. */
    private static void roomAgain() {
        HotAisle x = keptEight();
        x.back();
        Check.same("keep()", x.keep(), 8);
        Check.same("keep()", x.keep(), HotAisle.FULL);
        x.back();
        x.back();
        Check.same("keep()", x.keep(), 7);
    }

    /** Busy, with two states kept before and six in the minutes behind them. */
    private static HotAisle keptEight() {
        HotAisle x = Rig.busy();
        for (int i = 3; i <= 8; i++) {
            x.minutes(1);
            Check.same("keep()", x.keep(), i);
        }
        x.minutes(1);
        return x;
    }
}
