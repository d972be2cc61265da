/** Promise 3: limit. */
public final class LimitTest {
    public static void main(String[] args) {
        answersWhatWas();
        leastAndMost();
        beyond();
        Check.end();
    }

    /** "THE LIMIT ..: what it was." */
    private static void answersWhatWas() {
        HotAisle x = new HotAisle();
        Check.same("limit(1)", x.limit(1), 12);
        Check.same("limit(1)", x.limit(1), 1);
        Check.same("limit(29)", x.limit(29), 1);
        Check.same("count(8)", x.count(8), 29);
    }

    /** "(0 to 30)". */
    private static void leastAndMost() {
        HotAisle x = new HotAisle();
        Check.same("limit(0)", x.limit(0), 12);
        Check.same("count(8)", x.count(8), 0);
        Check.same("limit(30)", x.limit(30), 0);
        Check.same("count(8)", x.count(8), 30);
    }

    /** "BAD." */
    private static void beyond() {
        Refusal.bad("limit(#)", 0, 30, HotAisle::limit);
    }
}
