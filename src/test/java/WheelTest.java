/** The third step of a minute: THE WHEEL (promises 8, 13, 14). */
public final class WheelTest {
    public static void main(String[] args) {
        starvedFromTheFirstMinute();
        fiveAreAnAnode();
        fourAreNot();
        whatIsLeftIsNotLost();
        whatIsLeftCountsLater();
        anAnodeAMinute();
        neverTwoInAMinute();
        twoLadles();
        beforeTheCranes();
        Check.end();
    }

    /** "else a STARVED MINUTE is counted". */
    private static void starvedFromTheFirstMinute() {
        HotAisle x = new HotAisle();
        x.minutes(3);
        Check.same("count(4)", x.count(4), 3);
        Check.same("count(3)", x.count(3), 0);
        for (int i = 1; i <= 5; i++) {
            x.minutes(60);
            Check.same("count(4)", x.count(4), 3 + 60 * i);
        }
    }

    /** "with 5 COPPER or more: 5 become an ANODE". */
    private static void fiveAreAnAnode() {
        casts(5, 1);
        casts(6, 1);
    }

    private static void fourAreNot() {
        casts(4, 0);
        casts(1, 0);
        casts(0, 0);
    }

    private static void whatIsLeftIsNotLost() {
        casts(9, 1);
        casts(10, 2);
        casts(11, 2);
    }

    /** Of 98 three are left behind 19 anodes, and two more make an anode of them; with one more they make none. */
    private static void whatIsLeftCountsLater() {
        leftOf98And(4, 20);
        leftOf98And(3, 19);
    }

    private static void leftOf98And(int drawn, int anodes) {
        HotAisle x = Rig.cooled(Rig.withCopper(51), 0, 49, drawn);
        Rig.done(x, 1, "6 take 4 draw 15 pour 4 draw");
        Rig.done(x, 1, "15 pour");
        Check.same("count(3)", x.count(3), 19);
        Rig.booked(x, 4, 98 + drawn - 2, 0, 0, 0);
        x.minutes(2);
        Check.same("count(3)", x.count(3), anodes);
        Rig.booked(x, 4, 98 + drawn - 2, 0, 0, 0);
    }

    /** Forty copper are eight minutes' anodes, one in each. */
    private static void anAnodeAMinute() {
        HotAisle x = atTheWheel(40);
        int starved = x.count(4);
        for (int i = 1; i <= 8; i++) {
            x.minutes(1);
            Check.same("count(3)", x.count(3), i);
        }
        Check.same("count(4)", x.count(4), starved);
        x.minutes(1);
        Check.same("count(3) with no copper", x.count(3), 8);
        Check.same("count(4) with no copper", x.count(4), starved + 1);
        Rig.booked(x, 4, 40, 0, 0, 0);
    }

    /** The more of it there is, the longer it takes: 98 copper are 19 minutes' anodes. */
    private static void neverTwoInAMinute() {
        HotAisle x = Rig.cooled(Rig.withCopper(51), 0, 49);
        Rig.done(x, 1, "6 take 4 draw 15 pour");
        for (int i = 1; i <= 19; i++) {
            x.minutes(1);
            Check.same("count(3)", x.count(3), i);
        }
        x.minutes(1);
        Check.same("count(3) with three copper", x.count(3), 19);
    }

    /** The second is poured while copper of the first is left: none of it is lost. */
    private static void twoLadles() {
        HotAisle x = Rig.cooled(Rig.withCopper(51), 0, 50, 50, 49);
        Rig.done(x, 1, "6 take 4 draw 13 set");
        Rig.done(x, 1, "10 take 4 draw 15 pour");
        Rig.booked(x, 4, 98, 0, 0, 0);
        Rig.done(x, 1, "14");
        Rig.refused(x, 1, "set");
        Rig.done(x, 1, "11 set 13 take 15 pour");
        Rig.booked(x, 4, 98 + 98, 0, 0, 0);
        int cast = x.count(3);
        Check.that("much of it is copper still", 98 + 98 - 5 * cast > 100);
        x.minutes(39 - cast);
        Check.same("count(3)", x.count(3), 39);
        x.minutes(1);
        Check.same("count(3) with one copper", x.count(3), 39);
        Rig.booked(x, 4, 98 + 98, 0, 0, 0);
    }

    /** What is poured in a minute is cast from the next one on. */
    private static void beforeTheCranes() {
        HotAisle x = atTheWheel(40);
        Check.same("count(3)", x.count(3), 0);
        Check.same("count(4)", x.count(4), x.count(0));
        Rig.booked(x, 4, 40, 0, 0, 0);
    }

    /** So much copper at the wheel becomes so many anodes, and starves then. */
    private static void casts(int copper, int anodes) {
        HotAisle x = atTheWheel(copper);
        int starved = x.count(4);
        x.minutes(anodes + 2);
        Check.same("count(3) of " + copper, x.count(3), anodes);
        Check.same("count(4) of " + copper, x.count(4), starved + 2);
        Rig.booked(x, 4, copper, 0, 0, 0);
    }

    /** Two more are drawn, for they freeze to ladle 1. */
    private static HotAisle atTheWheel(int copper) {
        HotAisle x = Rig.withCopper(copper + 2);
        Rig.done(x, 1, "6 take 4 draw 15 pour");
        Rig.booked(x, 4, copper, 0, 0, 0);
        return x;
    }
}
