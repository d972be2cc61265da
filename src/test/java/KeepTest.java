/** Promise 15: keep. */
public final class KeepTest {
    public static void main(String[] args) {
        HotAisle x = Rig.withFullVessel();
        int[] before = Rig.answers(x);
        for (int i = 1; i <= 8; i++) {
            Check.same("keep()", x.keep(), i);
            Check.same("count(7)", x.count(7), i);
        }
        Check.same("keep() of a ninth", x.keep(), HotAisle.FULL);
        Check.same("count(7)", x.count(7), 8);
        int[] after = Rig.answers(x);
        for (int i = 0; i < before.length; i++) {
            // Only count(7), the third from the end, is another one.
            Check.same("answer " + i, after[i], i == before.length - 3 ? 8 : before[i]);
        }
        Check.same("back()", x.back(), x.count(0));
        Check.same("keep() behind it", x.keep(), 8);
        Check.same("keep() of a ninth", x.keep(), HotAisle.FULL);
        Check.end();
    }
}
