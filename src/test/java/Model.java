import java.util.ArrayDeque;
import java.util.ArrayList;
import java.util.List;

/**
 * The document written a second time, for WalkTest: slow, one unit at a time, and in another shape than the
 * program (every unit lies in a named heap of a ladle, a vessel, ..), so that a slip in one is not in the other.
 */
final class Model {
    private static final int COPPER = 1, IRON = 2, SULPHUR = 3, SLAG = 4;
    private static final int BAD = -1, NO = -2, FULL = -3, NONE = -4;

    private int[] furnace = new int[5];
    private int[][] vessels = new int[3][5];
    private int[][] ladles = new int[4][5];
    private int[][] skulls = new int[4][5];
    private int[][] books = new int[11][5];
    private int[] heat = {1150, 1150, 1150};
    private boolean[] blown = new boolean[3];
    private int[] held = new int[3];
    private int[] stopped = new int[3];
    private int[] sort = new int[4];
    private int[] stands = {1, 6, 10, 14};
    private int[] carried = {NONE, NONE};
    private int[] place = {3, 11};
    private int[] waits = new int[2];
    private List<List<int[]>> orders = List.of(new ArrayList<>(), new ArrayList<>());
    private int[] counts = new int[10];
    private int wheel;
    private ArrayDeque<Model> kept = new ArrayDeque<>();

    Model() {
        counts[8] = 12;
    }

    int fed(boolean on) {
        int was = counts[9];
        counts[9] = on ? 1 : 0;
        return was;
    }

    int limit(int gas) {
        if (gas < 0 || gas > 30) return BAD;
        int was = counts[8];
        counts[8] = gas;
        return was;
    }

    int blow(int vessel, boolean on) {
        if (vessel < 0 || vessel > 2) return BAD;
        if (on && sum(vessels[vessel]) == 0) return NO;
        int was = blown[vessel] ? 1 : 0;
        blown[vessel] = on;
        return was;
    }

    int cold(int vessel, int k) {
        if (vessel < 0 || vessel > 2 || k < 1 || k > 50) return BAD;
        int all = sum(vessels[vessel]);
        if (all == 0 || all + k > 300) return NO;
        heat[vessel] = heat[vessel] * all / (all + k);
        vessels[vessel][COPPER] += k;
        books[8][COPPER] += k;
        return heat[vessel];
    }

    int order(int crane, int what, int at) {
        if (crane < 0 || crane > 1 || what < 0 || what > 7) return BAD;
        if (what == 0 && (at < 0 || at > 15)) return BAD;
        if (orders.get(crane).size() == 8) return FULL;
        orders.get(crane).add(new int[] {what, at});
        return orders.get(crane).size();
    }

    int drop(int crane) {
        if (crane < 0 || crane > 1) return BAD;
        int had = orders.get(crane).size();
        orders.get(crane).clear();
        return had;
    }

    int minutes(int n) {
        if (n < 1 || n > 60) return BAD;
        int before = counts[6];
        for (int i = 0; i < n; i++) minute();
        return counts[6] - before;
    }

    int until(int n) {
        if (n < 1 || n > 200) return BAD;
        for (int i = 0; i < n; i++) {
            if (orders.get(0).isEmpty() && orders.get(1).isEmpty()) return i;
            minute();
        }
        return n;
    }

    int crane(int crane, int what) {
        if (crane < 0 || crane > 1 || what < 0 || what > 4) return BAD;
        int first = orders.get(crane).isEmpty() ? NONE : orders.get(crane).get(0)[0];
        return new int[] {place[crane], carried[crane], orders.get(crane).size(), first, waits[crane]}[what];
    }

    int ladle(int ladle, int what) {
        if (ladle < 0 || ladle > 3 || what < 0 || what > 11 || what == 3) return BAD;
        int by = carried[0] == ladle ? 0 : carried[1] == ladle ? 1 : NONE;
        if (what == 0) return by == NONE ? stands[ladle] : place[by];
        if (what == 1) return by;
        if (what == 2) return sort[ladle];
        return what < 8 ? ladles[ladle][what - 3] : skulls[ladle][what - 7];
    }

    int vessel(int vessel, int what) {
        if (vessel < 0 || vessel > 2 || what < 0 || what > 7) return BAD;
        if (what == 0) return heat[vessel];
        if (what == 1) return blown[vessel] ? 1 : 0;
        if (what == 6) return held[vessel];
        return what == 7 ? stopped[vessel] : vessels[vessel][what - 1];
    }

    int book(int at, int s) {
        if (at < 0 || at > 10 || s < 1 || s > 4) return BAD;
        if (at == 0) return furnace[s];
        if (at > 4) return books[at][s];
        if (at == 4) return s == COPPER ? wheel + 5 * counts[3] : 0;
        int all = 0;
        for (int[] heap : at == 1 ? vessels : at == 2 ? ladles : skulls) all += heap[s];
        return all;
    }

    int count(int what) {
        if (what < 0 || what > 9) return BAD;
        return what == 7 ? kept.size() : counts[what];
    }

    int keep() {
        if (kept.size() == 8) return FULL;
        kept.push(copyOf(this));
        return kept.size();
    }

    int back() {
        if (kept.isEmpty()) return NO;
        ArrayDeque<Model> left = kept;
        take(left.pop());
        kept = left;
        return counts[0];
    }

    private static Model copyOf(Model other) {
        Model copy = new Model();
        copy.take(other);
        return copy;
    }

    private void take(Model other) {
        furnace = other.furnace.clone();
        vessels = deep(other.vessels);
        ladles = deep(other.ladles);
        skulls = deep(other.skulls);
        books = deep(other.books);
        heat = other.heat.clone();
        blown = other.blown.clone();
        held = other.held.clone();
        stopped = other.stopped.clone();
        sort = other.sort.clone();
        stands = other.stands.clone();
        carried = other.carried.clone();
        place = other.place.clone();
        waits = other.waits.clone();
        orders = List.of(new ArrayList<>(other.orders.get(0)), new ArrayList<>(other.orders.get(1)));
        counts = other.counts.clone();
        wheel = other.wheel;
    }

    private static int[][] deep(int[][] rows) {
        int[][] copy = new int[rows.length][];
        for (int i = 0; i < rows.length; i++) copy[i] = rows[i].clone();
        return copy;
    }

    private static int sum(int[] heap) {
        return heap[1] + heap[2] + heap[3] + heap[4];
    }

    private void minute() {
        counts[0]++;
        if (counts[9] == 1) {
            if (sum(furnace) > 591) {
                counts[5]++;
            } else {
                for (int s = 1; s < 4; s++) {
                    furnace[s] += 5 - s;
                    books[8][s] += 5 - s;
                }
            }
        }
        counts[2] = 0;
        for (int v = 0; v < 3; v++) {
            if (blown[v]) blowOne(v);
        }
        for (int v = 0; v < 3; v++) {
            for (int i = 0; i < 8 && sum(vessels[v]) > 0 && heat[v] > 0; i++) heat[v]--;
        }
        if (wheel > 4) {
            wheel -= 5;
            counts[3]++;
        } else {
            counts[4]++;
        }
        for (int c = 0; c < 2; c++) work(c);
    }

    /** Six parts are tried on a copy, which is thrown away if there is too much gas. */
    private void blowOne(int v) {
        if (heat[v] < 1000 || heat[v] > 1300) {
            blown[v] = false;
            stopped[v]++;
            return;
        }
        int[] tried = vessels[v].clone();
        int[] became = new int[5];
        int hotter = 0;
        for (int part = 0; part < 6; part++) {
            int s = tried[IRON] > 0 ? IRON : tried[SULPHUR] > 0 ? SULPHUR : tried[COPPER] > 0 ? COPPER : 0;
            if (s == 0) break;
            tried[s]--;
            became[s]++;
            if (s != SULPHUR) tried[SLAG]++;
            hotter += s == IRON ? 4 : s == SULPHUR ? 3 : 2;
        }
        if (counts[2] + became[SULPHUR] > counts[8]) {
            held[v]++;
            return;
        }
        vessels[v] = tried;
        heat[v] += hotter;
        counts[1] += became[SULPHUR];
        counts[2] += became[SULPHUR];
        for (int s = 1; s < 5; s++) books[9][s] += became[s];
        books[10][SLAG] += became[IRON] + became[COPPER];
    }

    private void work(int c) {
        List<int[]> mine = orders.get(c);
        while (!mine.isEmpty()) {
            int what = mine.get(0)[0];
            int to = mine.get(0)[1];
            if (what == 0 && to != place[c]) {
                int next = place[c] + Integer.signum(to - place[c]);
                if (next == place[1 - c]) waits[c]++;
                else place[c] = next;
                return;
            }
            if (what != 0 && !can(c, what)) {
                waits[c]++;
                return;
            }
            mine.remove(0);
            counts[6]++;
            if (what != 0) return;
        }
    }

    private boolean can(int c, int what) {
        int at = place[c];
        int l = carried[c];
        int there = NONE;
        for (int i = 0; i < 4; i++) {
            if (i != carried[0] && i != carried[1] && stands[i] == at) there = i;
        }
        int v = at == 4 ? 0 : at == 8 ? 1 : at == 12 ? 2 : NONE;
        if (what == 1) {
            if (l != NONE || there == NONE) return false;
            carried[c] = there;
            return true;
        }
        if (l == NONE) return false;
        switch (what) {
            case 2:
                if (at == 0 || at == 2 || at == 15 || v != NONE || there != NONE) return false;
                stands[l] = at;
                carried[c] = NONE;
                return true;
            case 3: return at == 0 && tap(l);
            case 4: return pour(l, at, v);
            case 5: return v != NONE && skim(l, v);
            case 6: return v != NONE && draw(l, v);
            default:
                if (at != 1 && at != 14 || sort[l] != 0 || sum(skulls[l]) == 0) return false;
                move(skulls[l], books[7], 20);
                return true;
        }
    }

    /** Moves so many units, copper first; answers how many were moved. */
    private static int move(int[] from, int[] to, int units) {
        int moved = 0;
        for (int s = 1; s < 5; s++) {
            while (moved < units && from[s] > 0) {
                from[s]--;
                to[s]++;
                moved++;
            }
        }
        return moved;
    }

    private boolean tap(int l) {
        int all = sum(furnace);
        int n = Math.min(all, 100 - sum(skulls[l]));
        if (sort[l] != 0 || n == 0) return false;
        int[] comes = new int[5];
        comes[COPPER] = furnace[COPPER] * n / all;
        comes[IRON] = furnace[IRON] * n / all;
        while (comes[COPPER] + comes[IRON] + comes[SULPHUR] < n) {
            int s = comes[SULPHUR] < furnace[SULPHUR] ? SULPHUR : comes[IRON] < furnace[IRON] ? IRON : COPPER;
            comes[s]++;
        }
        for (int s = 1; s < 4; s++) {
            furnace[s] -= comes[s];
            ladles[l][s] += comes[s];
        }
        sort[l] = 1;
        return true;
    }

    private boolean pour(int l, int at, int v) {
        int frozen = 0;
        while (frozen < 2 && frozen < sum(ladles[l]) && sum(skulls[l]) + frozen < 20) frozen++;
        int comes = sum(ladles[l]) - frozen;
        int[] to;
        if (sort[l] == 1 && v != NONE && sum(vessels[v]) + comes <= 300) to = vessels[v];
        else if (sort[l] == 2 && at == 2) to = books[5];
        else if (sort[l] == 2 && at == 0) to = books[6];
        else if (sort[l] == 3 && at == 15) to = new int[5];
        else return false;
        move(ladles[l], skulls[l], frozen);
        if (sort[l] == 1 && comes > 0) {
            heat[v] = (heat[v] * sum(to) + 1150 * comes) / (sum(to) + comes);
        }
        int moved = move(ladles[l], to, 100);
        if (sort[l] == 3) wheel += moved;
        sort[l] = 0;
        return true;
    }

    private boolean skim(int l, int v) {
        if (sort[l] != 0 && sort[l] != 2) return false;
        int n = 0;
        while (vessels[v][SLAG] > 0 && sum(ladles[l]) + sum(skulls[l]) < 100) {
            vessels[v][SLAG]--;
            ladles[l][SLAG]++;
            n++;
        }
        if (n > 0) sort[l] = 2;
        return n > 0;
    }

    private boolean draw(int l, int v) {
        int[] heap = vessels[v];
        if (sort[l] != 0 || blown[v] || heap[IRON] + heap[SULPHUR] + heap[SLAG] > 0 || heap[COPPER] == 0) return false;
        move(heap, ladles[l], 100 - sum(skulls[l]));
        sort[l] = 3;
        return true;
    }
}
