/** An aisle of a smelter, minute by minute: the promises of DOC.md, in the Java of LANGUAGE.md. */
public final class HotAisle {
    public static final int BAD = -1, NO = -2, FULL = -3, NONE = -4;

    private static final int COPPER = 1, IRON = 2, SULPHUR = 3, SLAG = 4;
    private static final int EMPTY = 0, MATTE = 1, SLAG_SORT = 2, METAL = 3;
    private static final int GO = 0, TAKE = 1, SET = 2, TAP = 3, POUR = 4, SKIM = 5, DRAW = 6, CLEAN = 7;

    private static final int FURNACE = 0, POT = 2, WHEEL = 15, LAST_PLACE = 15;
    private static final int CLEANING_LEFT = 1, CLEANING_RIGHT = 14;
    private static final int[] VESSEL_PLACES = {4, 8, 12};
    private static final int[] FIRST_LADLE_PLACES = {1, 6, 10, 14};
    private static final int FIRST_LEFT_PLACE = 3, FIRST_RIGHT_PLACE = 11;

    private static final int FURNACE_HOLDS = 600, VESSEL_HOLDS = 300, LADLE_HOLDS = 100;
    private static final int FEED_COPPER = 4, FEED_IRON = 3, FEED_SULPHUR = 2;
    private static final int SKULL_HOLDS = 20, SKULL_A_POUR = 2;
    private static final int PARTS = 6, ANODE_COPPER = 5;
    private static final int FIRST_HEAT = 1150, MATTE_HEAT = 1150, LEAST_HEAT = 1000, MOST_HEAT = 1300, COOLING = 8;
    private static final int IRON_HEAT = 4, SULPHUR_HEAT = 3, COPPER_HEAT = 2;

    private static final int FIRST_LIMIT = 12, MOST_LIMIT = 30, MOST_COLD = 50;
    private static final int MOST_MINUTES = 60, MOST_UNTIL = 200;
    private static final int MOST_ORDERS = 8, MOST_STATES = 8;

    private final Aisle now;
    private final Aisle[] kept;
    private int states;

    public HotAisle() {
        now = new Aisle();
        // Made here once and written over by each keep(), so that no later call makes an object.
        kept = new Aisle[MOST_STATES];
        for (int i = 0; i < kept.length; i++) {
            kept[i] = new Aisle();
        }
    }

    public int fed(boolean on) {
        int was = oneIf(now.isFed);
        now.isFed = on;
        return was;
    }

    public int limit(int gas) {
        if (!isBetween(0, gas, MOST_LIMIT)) {
            return BAD;
        }
        int was = now.gasLimit;
        now.gasLimit = gas;
        return was;
    }

    public int blow(int vessel, boolean on) {
        Vessel told = now.vesselNumbered(vessel);
        if (told == null) {
            return BAD;
        }
        if (on && told.stuff.all() == 0) {
            return NO;
        }
        int was = oneIf(told.isBlown);
        told.isBlown = on;
        return was;
    }

    public int cold(int vessel, int k) {
        Vessel told = now.vesselNumbered(vessel);
        if (told == null || !isBetween(1, k, MOST_COLD)) {
            return BAD;
        }
        int held = told.stuff.all();
        if (held == 0 || held + k > VESSEL_HOLDS) {
            return NO;
        }
        told.mixHeat(0, k);
        told.stuff.copper += k;
        now.books.cameIn.copper += k;
        return told.heat;
    }

    public int order(int crane, int what, int place) {
        Crane told = now.craneNumbered(crane);
        if (told == null || !isBetween(GO, what, CLEAN)) {
            return BAD;
        }
        if (what == GO && !isBetween(0, place, LAST_PLACE)) {
            return BAD;
        }
        return told.addOrder(what, place) ? told.orders : FULL;
    }

    public int drop(int crane) {
        Crane told = now.craneNumbered(crane);
        if (told == null) {
            return BAD;
        }
        int had = told.orders;
        told.orders = 0;
        return had;
    }

    public int minutes(int n) {
        if (!isBetween(1, n, MOST_MINUTES)) {
            return BAD;
        }
        int doneBefore = now.books.ordersDone;
        for (int i = 0; i < n; i++) {
            now.passMinute();
        }
        return now.books.ordersDone - doneBefore;
    }

    public int until(int n) {
        if (!isBetween(1, n, MOST_UNTIL)) {
            return BAD;
        }
        int passed = 0;
        while (passed < n && now.hasOrders()) {
            now.passMinute();
            passed++;
        }
        return passed;
    }

    public int crane(int crane, int what) {
        Crane asked = now.craneNumbered(crane);
        if (asked == null) {
            return BAD;
        }
        return what == 1 ? now.numberOfLadleOn(asked) : asked.answer(what);
    }

    public int ladle(int ladle, int what) {
        Ladle asked = now.ladleNumbered(ladle);
        return asked == null ? BAD : asked.answer(what);
    }

    public int vessel(int vessel, int what) {
        Vessel asked = now.vesselNumbered(vessel);
        return asked == null ? BAD : asked.answer(what);
    }

    public int book(int at, int s) {
        return isBetween(COPPER, s, SLAG) ? now.stuffAt(at, s) : BAD;
    }

    public int count(int what) {
        switch (what) {
            case 7: return states;
            case 8: return now.gasLimit;
            case 9: return oneIf(now.isFed);
            default: return now.books.answer(what);
        }
    }

    public int keep() {
        if (states < 0 || states >= kept.length) {
            return FULL;
        }
        kept[states].copyFrom(now);
        states++;
        return states;
    }

    public int back() {
        if (states < 1 || states > kept.length) {
            return NO;
        }
        states--;
        now.copyFrom(kept[states]);
        return now.books.minutesPassed;
    }

    private static boolean isBetween(int least, int x, int most) {
        return least <= x && x <= most;
    }

    private static int oneIf(boolean yes) {
        return yes ? 1 : 0;
    }

    private static void copyRow(int[] from, int[] to) {
        for (int i = 0; i < from.length && i < to.length; i++) {
            to[i] = from[i];
        }
    }

    /** An amount of each of the four kinds of stuff. */
    private static final class Stuff {
        int copper, iron, sulphur, slag;

        int of(int s) {
            switch (s) {
                case COPPER: return copper;
                case IRON: return iron;
                case SULPHUR: return sulphur;
                case SLAG: return slag;
                default: return 0;
            }
        }

        void add(int s, int k) {
            switch (s) {
                case COPPER: copper += k; break;
                case IRON: iron += k; break;
                case SULPHUR: sulphur += k; break;
                case SLAG: slag += k; break;
                default: break;
            }
        }

        int all() {
            return copper + iron + sulphur + slag;
        }

        void addAll(Stuff other) {
            copper += other.copper;
            iron += other.iron;
            sulphur += other.sulphur;
            slag += other.slag;
        }

        void clear() {
            copper = 0;
            iron = 0;
            sulphur = 0;
            slag = 0;
        }

        void copyFrom(Stuff other) {
            clear();
            addAll(other);
        }
    }

    /** What is counted, and the stuff that has left the furnace, the vessels and the ladles. */
    private static final class Books {
        final Stuff pot = new Stuff();
        final Stuff givenBack = new Stuff();
        final Stuff cleanedOff = new Stuff();
        final Stuff cameIn = new Stuff();
        final Stuff becameOther = new Stuff();
        final Stuff cameOfOthers = new Stuff();
        int minutesPassed, gasOfMinute, anodes, starved, fullMinutes, ordersDone;

        int answer(int what) {
            switch (what) {
                case 0: return minutesPassed;
                // Sulphur becomes gas and nothing else does.
                case 1: return becameOther.sulphur;
                case 2: return gasOfMinute;
                case 3: return anodes;
                case 4: return starved;
                case 5: return fullMinutes;
                case 6: return ordersDone;
                default: return BAD;
            }
        }

        void copyFrom(Books other) {
            pot.copyFrom(other.pot);
            givenBack.copyFrom(other.givenBack);
            cleanedOff.copyFrom(other.cleanedOff);
            cameIn.copyFrom(other.cameIn);
            becameOther.copyFrom(other.becameOther);
            cameOfOthers.copyFrom(other.cameOfOthers);
            minutesPassed = other.minutesPassed;
            gasOfMinute = other.gasOfMinute;
            anodes = other.anodes;
            starved = other.starved;
            fullMinutes = other.fullMinutes;
            ordersDone = other.ordersDone;
        }
    }

    private static final class Vessel {
        final int place;
        final Stuff stuff = new Stuff();
        int heat = FIRST_HEAT, held, stopped;
        boolean isBlown;

        Vessel(int place) {
            this.place = place;
        }

        int answer(int what) {
            switch (what) {
                case 0: return heat;
                case 1: return oneIf(isBlown);
                case 2: case 3: case 4: case 5: return stuff.of(what - 1);
                case 6: return held;
                case 7: return stopped;
                default: return BAD;
            }
        }

        /** Told before the stuff itself comes in. */
        void mixHeat(int heatOfComing, int coming) {
            int before = stuff.all();
            int together = before + coming;
            if (coming > 0 && together > 0) {
                heat = (heat * before + heatOfComing * coming) / together;
            }
        }

        boolean isTooColdOrTooHot() {
            return !isBetween(LEAST_HEAT, heat, MOST_HEAT);
        }

        boolean holdsCopperAlone() {
            return stuff.copper > 0 && stuff.copper == stuff.all();
        }

        void cool() {
            if (stuff.all() > 0) {
                heat = Math.max(0, heat - COOLING);
            }
        }

        void copyFrom(Vessel other) {
            stuff.copyFrom(other.stuff);
            heat = other.heat;
            held = other.held;
            stopped = other.stopped;
            isBlown = other.isBlown;
        }
    }

    private static final class Ladle {
        final Stuff stuff = new Stuff();
        final Stuff skull = new Stuff();
        /** Where it stands, or the place of the crane that carries it. */
        int place;
        int carrier = NONE;
        int sort = EMPTY;

        Ladle(int firstPlace) {
            place = firstPlace;
        }

        int answer(int what) {
            switch (what) {
                case 0: return place;
                case 1: return carrier;
                case 2: return sort;
                case 4: case 5: case 6: case 7: return stuff.of(what - 3);
                case 8: case 9: case 10: case 11: return skull.of(what - 7);
                default: return BAD;
            }
        }

        int room() {
            return LADLE_HOLDS - skull.all() - stuff.all();
        }

        int stuffThatFreezes() {
            return Math.min(Math.min(SKULL_A_POUR, stuff.all()), SKULL_HOLDS - skull.all());
        }

        void freeze(int units) {
            int left = units;
            for (int s = COPPER; s <= SLAG; s++) {
                int part = Math.min(left, stuff.of(s));
                stuff.add(s, -part);
                skull.add(s, part);
                left -= part;
            }
        }

        void empty() {
            stuff.clear();
            sort = EMPTY;
        }

        void copyFrom(Ladle other) {
            stuff.copyFrom(other.stuff);
            skull.copyFrom(other.skull);
            place = other.place;
            carrier = other.carrier;
            sort = other.sort;
        }
    }

    private static final class Crane {
        final int number;
        /** The orders stand at 0 to orders - 1; what is behind them is left over from earlier ones. */
        final int[] whats = new int[MOST_ORDERS];
        final int[] targets = new int[MOST_ORDERS];
        int place, orders, waits;

        Crane(int number, int firstPlace) {
            this.number = number;
            place = firstPlace;
        }

        int answer(int what) {
            switch (what) {
                case 0: return place;
                case 2: return orders;
                case 3: return firstWhat();
                case 4: return waits;
                default: return BAD;
            }
        }

        int firstWhat() {
            return orders > 0 ? whats[0] : NONE;
        }

        boolean goesWhereItIs() {
            return firstWhat() == GO && targets[0] == place;
        }

        int nextPlace() {
            return targets[0] > place ? place + 1 : place - 1;
        }

        boolean addOrder(int what, int target) {
            if (orders < 0 || orders >= whats.length || orders >= targets.length) {
                return false;
            }
            whats[orders] = what;
            targets[orders] = target;
            orders++;
            return true;
        }

        void removeFirst() {
            for (int i = 1; i < orders && i < whats.length && i < targets.length; i++) {
                whats[i - 1] = whats[i];
                targets[i - 1] = targets[i];
            }
            orders = Math.max(0, orders - 1);
        }

        void copyFrom(Crane other) {
            copyRow(other.whats, whats);
            copyRow(other.targets, targets);
            place = other.place;
            orders = other.orders;
            waits = other.waits;
        }
    }

    /** All that is kept and comes back: the aisle as it stands. */
    private static final class Aisle {
        final Stuff furnace = new Stuff();
        final Vessel[] vessels = new Vessel[VESSEL_PLACES.length];
        final Ladle[] ladles = new Ladle[FIRST_LADLE_PLACES.length];
        final Crane left = new Crane(0, FIRST_LEFT_PLACE);
        final Crane right = new Crane(1, FIRST_RIGHT_PLACE);
        final Books books = new Books();
        int wheelCopper;
        int gasLimit = FIRST_LIMIT;
        boolean isFed;

        Aisle() {
            for (int i = 0; i < vessels.length && i < VESSEL_PLACES.length; i++) {
                vessels[i] = new Vessel(VESSEL_PLACES[i]);
            }
            for (int i = 0; i < ladles.length && i < FIRST_LADLE_PLACES.length; i++) {
                ladles[i] = new Ladle(FIRST_LADLE_PLACES[i]);
            }
        }

        void copyFrom(Aisle other) {
            furnace.copyFrom(other.furnace);
            for (int i = 0; i < vessels.length && i < other.vessels.length; i++) {
                vessels[i].copyFrom(other.vessels[i]);
            }
            for (int i = 0; i < ladles.length && i < other.ladles.length; i++) {
                ladles[i].copyFrom(other.ladles[i]);
            }
            left.copyFrom(other.left);
            right.copyFrom(other.right);
            books.copyFrom(other.books);
            wheelCopper = other.wheelCopper;
            gasLimit = other.gasLimit;
            isFed = other.isFed;
        }

        Vessel vesselNumbered(int number) {
            return isBetween(0, number, vessels.length - 1) ? vessels[number] : null;
        }

        Vessel vesselAt(int place) {
            for (Vessel vessel : vessels) {
                if (vessel.place == place) {
                    return vessel;
                }
            }
            return null;
        }

        boolean isFloor(int place) {
            return place != FURNACE && place != POT && place != WHEEL && vesselAt(place) == null;
        }

        Ladle ladleNumbered(int number) {
            return isBetween(0, number, ladles.length - 1) ? ladles[number] : null;
        }

        int numberOfLadleOn(Crane crane) {
            for (int i = 0; i < ladles.length; i++) {
                if (ladles[i].carrier == crane.number) {
                    return i;
                }
            }
            return NONE;
        }

        Ladle ladleStandingAt(int place) {
            for (Ladle ladle : ladles) {
                if (ladle.carrier == NONE && ladle.place == place) {
                    return ladle;
                }
            }
            return null;
        }

        Crane craneNumbered(int number) {
            switch (number) {
                case 0: return left;
                case 1: return right;
                default: return null;
            }
        }

        boolean hasOrders() {
            return left.orders > 0 || right.orders > 0;
        }

        int stuffAt(int at, int s) {
            switch (at) {
                case 0: return furnace.of(s);
                case 1: return inVessels(s);
                case 2: return inLadles(s);
                case 3: return inSkulls(s);
                case 4: return s == COPPER ? wheelCopper + ANODE_COPPER * books.anodes : 0;
                case 5: return books.pot.of(s);
                case 6: return books.givenBack.of(s);
                case 7: return books.cleanedOff.of(s);
                case 8: return books.cameIn.of(s);
                case 9: return books.becameOther.of(s);
                case 10: return books.cameOfOthers.of(s);
                default: return BAD;
            }
        }

        private int inVessels(int s) {
            int sum = 0;
            for (Vessel vessel : vessels) {
                sum += vessel.stuff.of(s);
            }
            return sum;
        }

        private int inLadles(int s) {
            int sum = 0;
            for (Ladle ladle : ladles) {
                sum += ladle.stuff.of(s);
            }
            return sum;
        }

        private int inSkulls(int s) {
            int sum = 0;
            for (Ladle ladle : ladles) {
                sum += ladle.skull.of(s);
            }
            return sum;
        }

        void passMinute() {
            books.minutesPassed++;
            feedFurnace();
            blowVessels();
            castAnode();
            work(left, right);
            work(right, left);
        }

        private void feedFurnace() {
            if (!isFed) {
                return;
            }
            if (furnace.all() + FEED_COPPER + FEED_IRON + FEED_SULPHUR > FURNACE_HOLDS) {
                books.fullMinutes++;
                return;
            }
            feed(COPPER, FEED_COPPER);
            feed(IRON, FEED_IRON);
            feed(SULPHUR, FEED_SULPHUR);
        }

        private void feed(int s, int k) {
            furnace.add(s, k);
            books.cameIn.add(s, k);
        }

        private void blowVessels() {
            books.gasOfMinute = 0;
            for (Vessel vessel : vessels) {
                if (vessel.isBlown) {
                    blowParts(vessel);
                }
            }
            for (Vessel vessel : vessels) {
                vessel.cool();
            }
        }

        private void blowParts(Vessel vessel) {
            if (vessel.isTooColdOrTooHot()) {
                vessel.isBlown = false;
                vessel.stopped++;
                return;
            }
            // A part takes of one kind only when those before it are used up, so all parts are told at once.
            int iron = Math.min(PARTS, vessel.stuff.iron);
            int sulphur = Math.min(PARTS - iron, vessel.stuff.sulphur);
            int copper = Math.min(PARTS - iron - sulphur, vessel.stuff.copper);
            if (books.gasOfMinute + sulphur > gasLimit) {
                vessel.held++;
                return;
            }
            books.gasOfMinute += sulphur;
            vessel.heat += IRON_HEAT * iron + SULPHUR_HEAT * sulphur + COPPER_HEAT * copper;
            burn(vessel, IRON, iron);
            burn(vessel, SULPHUR, sulphur);
            burn(vessel, COPPER, copper);
            vessel.stuff.slag += iron + copper;
            books.cameOfOthers.slag += iron + copper;
        }

        private void burn(Vessel vessel, int s, int k) {
            vessel.stuff.add(s, -k);
            books.becameOther.add(s, k);
        }

        private void castAnode() {
            if (wheelCopper >= ANODE_COPPER) {
                wheelCopper -= ANODE_COPPER;
                books.anodes++;
            } else {
                books.starved++;
            }
        }

        private void work(Crane crane, Crane other) {
            for (int i = 0; i < MOST_ORDERS && crane.goesWhereItIs(); i++) {
                finishFirst(crane);
            }
            if (crane.orders == 0) {
                return;
            }
            if (crane.firstWhat() == GO) {
                stepOrWait(crane, other);
            } else if (isCarriedOut(crane)) {
                finishFirst(crane);
            } else {
                crane.waits++;
            }
        }

        private void finishFirst(Crane crane) {
            crane.removeFirst();
            books.ordersDone++;
        }

        private void stepOrWait(Crane crane, Crane other) {
            int next = crane.nextPlace();
            if (next == other.place) {
                crane.waits++;
                return;
            }
            crane.place = next;
            Ladle carried = ladleNumbered(numberOfLadleOn(crane));
            if (carried != null) {
                carried.place = next;
            }
        }

        private boolean isCarriedOut(Crane crane) {
            Ladle carried = ladleNumbered(numberOfLadleOn(crane));
            if (crane.firstWhat() == TAKE) {
                return carried == null && take(crane);
            }
            if (carried == null) {
                return false;
            }
            Vessel vessel = vesselAt(crane.place);
            switch (crane.firstWhat()) {
                case SET: return set(carried);
                case TAP: return tap(carried);
                case POUR: return pour(carried, vessel);
                case SKIM: return vessel != null && skim(carried, vessel);
                case DRAW: return vessel != null && draw(carried, vessel);
                case CLEAN: return clean(carried);
                default: return false;
            }
        }

        private boolean take(Crane crane) {
            Ladle standing = ladleStandingAt(crane.place);
            if (standing == null) {
                return false;
            }
            standing.carrier = crane.number;
            return true;
        }

        private boolean set(Ladle ladle) {
            if (!isFloor(ladle.place) || ladleStandingAt(ladle.place) != null) {
                return false;
            }
            ladle.carrier = NONE;
            return true;
        }

        private boolean tap(Ladle ladle) {
            int there = furnace.all();
            int n = Math.min(there, ladle.room());
            if (ladle.place != FURNACE || ladle.sort != EMPTY || there < 1 || n < 1) {
                return false;
            }
            int copper = furnace.copper * n / there;
            int iron = furnace.iron * n / there;
            int sulphur = Math.min(n - copper - iron, furnace.sulphur);
            int lackingSulphur = n - copper - iron - sulphur;
            iron += Math.min(lackingSulphur, furnace.iron - iron);
            copper = n - iron - sulphur;
            ladle.sort = MATTE;
            tapStuff(ladle, COPPER, copper);
            tapStuff(ladle, IRON, iron);
            tapStuff(ladle, SULPHUR, sulphur);
            return true;
        }

        private void tapStuff(Ladle ladle, int s, int k) {
            furnace.add(s, -k);
            ladle.stuff.add(s, k);
        }

        private boolean pour(Ladle ladle, Vessel vessel) {
            int freezing = ladle.stuffThatFreezes();
            int coming = ladle.stuff.all() - freezing;
            if (!canPour(ladle, vessel, coming)) {
                return false;
            }
            ladle.freeze(freezing);
            if (vessel != null) {
                vessel.mixHeat(MATTE_HEAT, coming);
                vessel.stuff.addAll(ladle.stuff);
            } else if (ladle.place == POT) {
                books.pot.addAll(ladle.stuff);
            } else if (ladle.place == FURNACE) {
                books.givenBack.addAll(ladle.stuff);
            } else {
                wheelCopper += ladle.stuff.copper;
            }
            ladle.empty();
            return true;
        }

        private static boolean canPour(Ladle ladle, Vessel vessel, int coming) {
            switch (ladle.sort) {
                case MATTE: return vessel != null && vessel.stuff.all() + coming <= VESSEL_HOLDS;
                case SLAG_SORT: return ladle.place == POT || ladle.place == FURNACE;
                case METAL: return ladle.place == WHEEL;
                default: return false;
            }
        }

        private static boolean skim(Ladle ladle, Vessel vessel) {
            boolean takesSlag = ladle.sort == EMPTY || ladle.sort == SLAG_SORT;
            int n = Math.min(vessel.stuff.slag, ladle.room());
            if (!takesSlag || n < 1) {
                return false;
            }
            vessel.stuff.slag -= n;
            ladle.stuff.slag += n;
            ladle.sort = SLAG_SORT;
            return true;
        }

        private static boolean draw(Ladle ladle, Vessel vessel) {
            if (vessel.isBlown || !vessel.holdsCopperAlone() || ladle.sort != EMPTY) {
                return false;
            }
            int n = Math.min(vessel.stuff.copper, ladle.room());
            vessel.stuff.copper -= n;
            ladle.stuff.copper += n;
            ladle.sort = METAL;
            return true;
        }

        private boolean clean(Ladle ladle) {
            boolean isThere = ladle.place == CLEANING_LEFT || ladle.place == CLEANING_RIGHT;
            if (!isThere || ladle.sort != EMPTY || ladle.skull.all() == 0) {
                return false;
            }
            books.cleanedOff.addAll(ladle.skull);
            ladle.skull.clear();
            return true;
        }
    }
}
