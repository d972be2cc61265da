/** Counts the answers that are not as due, and ends a test with exit code 1 if there was one. */
final class Check {
    private static int right = 0;
    private static int wrong = 0;

    private Check() {
    }

    static void same(String call, long got, long due) {
        if (got == due) {
            right++;
        } else {
            wrong++;
            System.out.println(call + " answered " + got + ", due is " + due);
        }
    }

    static void that(String what, boolean holds) {
        same(what + " (1: it holds)", holds ? 1 : 0, 1);
    }

    static int wrongOnes() {
        return wrong;
    }

    static void end() {
        if (wrong > 0 || right == 0) {
            System.out.println(right + " answers as due, " + wrong + " not");
            System.exit(1);
        }
    }
}
