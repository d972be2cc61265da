/**
 * Long walks of calls (all promises): each answer is compared with the Model's, and no unit may be lost.
 * The walks are the same at each run: what comes next is told by a plain generator of numbers.
 */
public final class WalkTest {
    private static final int WALKS = 600;
    private static final int CALLS = 370;
    private static final int MOST_OF_A_STEP = 7;
    private static final int[] ODD = {-1, 16, 8, 31, 51, 61, 201, -4, Integer.MIN_VALUE, Integer.MAX_VALUE};

    /** What all walks together must have seen, or they would test little. */
    private static final String[] SEEN = {"gas", "anodes", "full minutes", "held", "stopped", "copper in a skull",
        "slag in a skull", "skull of 20", "pot", "given back", "cleaned off", "metal in a ladle", "waits"};
    private static final int[] seen = new int[SEEN.length];

    private long state;
    private HotAisle x = new HotAisle();
    private Model model = new Model();
    private final String name;
    private int calls;

    private WalkTest(int walk) {
        state = walk * 7919L + 17;
        name = "walk " + walk;
    }

    public static void main(String[] args) {
        for (int walk = 0; walk < WALKS && Check.wrongOnes() < 20; walk++) {
            new WalkTest(walk).walk();
        }
        for (int i = 0; i < SEEN.length; i++) {
            Check.that("some walk has seen: " + SEEN[i], seen[i] > 0);
        }
        Check.end();
    }

    private int next(int below) {
        state = state * 6364136223846793005L + 1442695040888963407L;
        return (int) ((state >>> 33) % below);
    }

    /** At most 512 calls: 370 of the walk, 132 of the last look. */
    private void walk() {
        same("fed(true)", x.fed(true), model.fed(true));
        calls = 1;
        while (calls < CALLS - MOST_OF_A_STEP) {
            step();
        }
        compareAll(Rig.answers(x));
        balance();
        look();
    }

    private void step() {
        int kind = next(100);
        if (kind < 35) {
            trip();
        } else if (kind < 55) {
            pass();
        } else if (kind < 75) {
            tend(next(3));
        } else if (kind < 85) {
            tell();
        } else if (kind < 88) {
            same("keep()", x.keep(), model.keep());
        } else if (kind < 89) {
            same("back()", x.back(), model.back());
        } else {
            ask();
        }
    }

    private int number(int below) {
        return next(25) == 0 ? ODD[next(ODD.length)] : next(below);
    }

    private void pass() {
        int n = next(3) == 0 ? number(62) : number(12);
        if (next(2) == 0) {
            same("minutes(" + n + ")", x.minutes(n), model.minutes(n));
        } else {
            int most = n * 4;
            same("until(" + most + ")", x.until(most), model.until(most));
        }
    }

    private void tell() {
        int vessel = number(3);
        int k = number(52);
        int gas = next(3) == 0 ? 30 * next(2) : number(32);
        boolean on = next(3) > 0;
        switch (next(8)) {
            case 0: same("fed(" + on + ")", x.fed(on), model.fed(on)); break;
            case 1: same("limit(" + gas + ")", x.limit(gas), model.limit(gas)); break;
            case 2: same("cold(" + vessel + ", " + k + ")", x.cold(vessel, k), model.cold(vessel, k)); break;
            case 3: same("drop(" + vessel + ")", x.drop(vessel), model.drop(vessel)); break;
            case 4: order(vessel, number(8), number(16)); break;
            default:
                same("blow(" + vessel + ", " + on + ")", x.blow(vessel, on), model.blow(vessel, on));
                break;
        }
    }

    private void ask() {
        int which = number(5);
        int what = number(13);
        switch (next(5)) {
            case 0: same("crane(" + which + ", " + what + ")", x.crane(which, what), model.crane(which, what)); break;
            case 1: same("ladle(" + which + ", " + what + ")", x.ladle(which, what), model.ladle(which, what)); break;
            case 2: same("vessel(" + which + ", " + what + ")", x.vessel(which, what), model.vessel(which, what)); break;
            case 3: same("book(" + what + ", " + which + ")", x.book(what, which), model.book(what, which)); break;
            default: same("count(" + what + ")", x.count(what), model.count(what)); break;
        }
    }

    /** What a vessel needs to end as copper alone. */
    private void tend(int vessel) {
        int heat = model.vessel(vessel, 0);
        boolean burns = model.vessel(vessel, 3) + model.vessel(vessel, 4) > 0;
        if (heat > 1300 || heat > 1200 && next(4) == 0) {
            int k = next(30) + 1;
            same("cold(" + vessel + ", " + k + ")", x.cold(vessel, k), model.cold(vessel, k));
        } else {
            same("blow(" + vessel + ", " + burns + ")", x.blow(vessel, burns), model.blow(vessel, burns));
        }
    }

    private void order(int crane, int what, int place) {
        same("order(" + crane + ", " + what + ", " + place + ")", x.order(crane, what, place), model.order(crane, what, place));
    }

    /** A crane fetches a ladle, or does what its ladle's sort asks for; the other crane makes way mostly. */
    private void trip() {
        int crane = next(2);
        if (next(5) > 0) {
            same("drop(0)", x.drop(0), model.drop(0));
            same("drop(1)", x.drop(1), model.drop(1));
            order(1 - crane, Rig.GO, crane == 0 ? 15 : 0);
        }
        int ladle = model.crane(crane, 1);
        if (ladle == HotAisle.NONE) {
            there(crane, model.ladle(next(4), 0), Rig.TAKE);
        } else {
            carry(crane, ladle);
        }
        if (next(4) > 0) {
            same("until(40)", x.until(40), model.until(40));
        }
    }

    private void carry(int crane, int ladle) {
        int vessel = next(3);
        int place = vessel * 4 + 4;
        boolean hasMoreThanSlag = model.vessel(vessel, 3) + model.vessel(vessel, 4) > 0;
        if (next(8) == 0) {
            there(crane, next(16), next(8));
        } else if (model.ladle(ladle, 2) == 1) {
            there(crane, place, Rig.POUR);
        } else if (model.ladle(ladle, 2) == 2) {
            there(crane, crane == 0 ? next(2) * 2 : 2, Rig.POUR);
        } else if (model.ladle(ladle, 2) == 3) {
            there(crane, crane == 0 ? 7 : 15, crane == 0 ? Rig.SET : Rig.POUR);
        } else if (next(16) == 0) {
            there(crane, next(2) * 13 + 1, Rig.CLEAN);
        } else if (model.vessel(vessel, 5) > 0) {
            there(crane, place, Rig.SKIM);
        } else if (model.vessel(vessel, 2) > 0 && !hasMoreThanSlag) {
            there(crane, place, Rig.DRAW);
        } else {
            there(crane, crane == 0 ? 0 : 9, crane == 0 ? Rig.TAP : Rig.SET);
        }
    }

    private void there(int crane, int place, int what) {
        order(crane, Rig.GO, place);
        order(crane, what, number(16));
    }

    private void same(String call, int got, int due) {
        calls++;
        Check.same(name + ": " + call, got, due);
    }

    private void compareAll(int[] got) {
        int n = 0;
        for (int i = 0; i < 10; i++) {
            same("crane(" + i / 5 + ", " + i % 5 + ")", got[n++], model.crane(i / 5, i % 5));
        }
        for (int i = 0; i < 48; i++) {
            if (i % 12 != 3) {
                same("ladle(" + i / 12 + ", " + i % 12 + ")", got[n++], model.ladle(i / 12, i % 12));
            }
        }
        for (int i = 0; i < 24; i++) {
            same("vessel(" + i / 8 + ", " + i % 8 + ")", got[n++], model.vessel(i / 8, i % 8));
        }
        for (int i = 0; i < 44; i++) {
            same("book(" + i / 4 + ", " + (i % 4 + 1) + ")", got[n++], model.book(i / 4, i % 4 + 1));
        }
        for (int i = 0; i < 10; i++) {
            same("count(" + i + ")", got[n++], model.count(i));
        }
    }

    /** All that came in, or came of others, is somewhere or became another one. */
    private void balance() {
        for (int s = 1; s <= 4; s++) {
            int somewhere = 0;
            for (int at = 0; at <= 7; at++) {
                somewhere += model.book(at, s);
            }
            same("all of stuff " + s, somewhere + model.book(9, s), model.book(8, s) + model.book(10, s));
        }
    }

    private void look() {
        int[] has = {model.count(1), model.count(3), model.count(5), 0, 0, model.book(3, 1), model.book(3, 4), 0,
            model.book(5, 4), model.book(6, 4), model.book(7, 1), 0, model.crane(0, 4)};
        for (int vessel = 0; vessel < 3; vessel++) {
            has[3] += model.vessel(vessel, 6);
            has[4] += model.vessel(vessel, 7);
        }
        for (int ladle = 0; ladle < 4; ladle++) {
            int skull = 0;
            for (int what = 8; what < 12; what++) {
                skull += model.ladle(ladle, what);
            }
            has[7] += skull == 20 ? 1 : 0;
            has[11] += model.ladle(ladle, 2) == 3 ? 1 : 0;
        }
        for (int i = 0; i < has.length; i++) {
            seen[i] += has[i] > 0 ? 1 : 0;
        }
    }
}
