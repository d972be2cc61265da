/** The example of README.md answers what is told there. */
public final class ReadmeTest {
    public static void main(String[] args) {
        HotAisle aisle = new HotAisle();
        aisle.fed(true);
        aisle.minutes(12);
        Check.same("units in the furnace", aisle.book(0, 1) + aisle.book(0, 2) + aisle.book(0, 3), 108);
        aisle.order(0, 0, 1);
        aisle.order(0, 1, 0);
        aisle.order(0, 0, 0);
        aisle.order(0, 3, 0);
        Check.same("passed", aisle.until(60), 5);
        Check.same("copper", aisle.ladle(0, 4), 44);
        Check.same("units in ladle 0", aisle.book(2, 1) + aisle.book(2, 2) + aisle.book(2, 3), 100);
        Check.end();
    }
}
