/** Airport shuttle seats with flights, delays and shared doors. */
public final class ShuttleDoors {
    public static final int NO_SUCH = -101, BAD_VALUE = -102, BAD_TEXT = -103, TOO_MANY = -104, NOT_POSSIBLE = -105, NONE = -106;
    public static final int BAGS = 0, PATIENCE = 1, AREAS = 2, COST = 3, DOOR = 4;

    private static final int SETTING_COUNT = 5;
    private static final int FLIGHT_COUNT = 6;
    private static final int VAN_COUNT = 8;
    private static final int AREA_COUNT = 6;
    private static final int DOOR_COUNT = 100;
    private static final int MOST_RIDERS = 24;
    private static final int MOST_PEOPLE = 4;
    private static final int MOST_SEATS = 12;
    private static final int PAD_SIZE = 60;
    private static final int HISTORY_SIZE = 6;
    private static final int SLOT_COUNT = 2;

    private static final int LAST_LANDING = 1200;
    private static final int LAST_LEAVING = 1500;
    private static final int LAST_AT_KERB = 3000;
    private static final int LEAST_DELAY = -30;
    private static final int GREATEST_DELAY = 300;
    private static final int LEAVING_STEP = 5;

    private static final int[] SETTING_LEAST = {0, 0, 1, 0, 0};
    private static final int[] SETTING_MOST = {90, 240, 6, 300, 40};
    private static final int[] SETTING_FIRST = {30, 60, 3, 60, 6};

    private final State now = new State();
    private final Plan plan = new Plan();
    private final Way way = new Way();
    // What-ifs are worked out here, so that they change nothing that stands.
    private final State trial = new State();
    private final Plan trialPlan = new Plan();
    private final Pad pad = new Pad();
    private final History history = new History();
    // null where nothing was saved.
    private final State[] slots = new State[SLOT_COUNT];

    public ShuttleDoors() {
    }

    // ---- changes

    public int set(int setting, int value) {
        if (!isIn(setting, 0, SETTING_COUNT - 1)) {
            return BAD_VALUE;
        }
        if (!isIn(value, SETTING_LEAST[setting], SETTING_MOST[setting])) {
            return BAD_VALUE;
        }
        int previous = now.settings[setting];
        history.record(now);
        now.settings[setting] = value;
        plan.make(now);
        return previous;
    }

    public int land(int flight, int minute) {
        if (!isFlight(flight)) {
            return NO_SUCH;
        }
        if (!isIn(minute, 0, LAST_LANDING)) {
            return BAD_VALUE;
        }
        int previous = now.lands[flight];
        history.record(now);
        now.lands[flight] = minute;
        plan.make(now);
        return previous;
    }

    public int delay(int flight, int minutes) {
        if (!isFlight(flight)) {
            return NO_SUCH;
        }
        if (!isDelay(minutes)) {
            return BAD_VALUE;
        }
        history.record(now);
        now.delays[flight] = minutes;
        plan.make(now);
        return now.flightReady(flight);
    }

    public int van(int van, int minute, int seats) {
        if (!isVan(van)) {
            return NO_SUCH;
        }
        if (!isIn(minute, 0, LAST_LEAVING) || !isIn(seats, 0, MOST_SEATS)) {
            return BAD_VALUE;
        }
        history.record(now);
        now.leaves[van] = minute;
        now.seats[van] = seats;
        plan.make(now);
        return plan.strandedPeople;
    }

    public int ride(int flight, int area, int door, int people) {
        if (!isFlight(flight) || !isIn(area, 0, AREA_COUNT - 1)) {
            return NO_SUCH;
        }
        if (!isIn(door, 0, DOOR_COUNT - 1) || !isIn(people, 1, MOST_PEOPLE)) {
            return BAD_VALUE;
        }
        if (now.riders >= MOST_RIDERS) {
            return TOO_MANY;
        }
        history.record(now);
        now.addRider(flight, area, door, people);
        plan.make(now);
        return now.riders - 1;
    }

    public int read() {
        if (pad.firstFault() != NONE) {
            return BAD_TEXT;
        }
        if (now.riders + pad.riderCount() > MOST_RIDERS) {
            return TOO_MANY;
        }
        history.record(now);
        pad.addRidersTo(now);
        pad.length = 0;
        plan.make(now);
        return now.riders;
    }

    public int cancel(int rider) {
        if (!isRider(rider)) {
            return NO_SUCH;
        }
        int fare = plan.fare(now, rider);
        history.record(now);
        now.removeRider(rider);
        plan.make(now);
        return fare;
    }

    public int rebook(int rider, int flight) {
        if (!isRider(rider) || !isFlight(flight)) {
            return NO_SUCH;
        }
        if (now.flights[rider] == flight) {
            return NOT_POSSIBLE;
        }
        history.record(now);
        now.flights[rider] = flight;
        plan.make(now);
        return plan.vans[rider];
    }

    // ---- what there is; nothing changes

    public int rider(int rider, int what) {
        if (!isRider(rider)) {
            return NO_SUCH;
        }
        switch (what) {
            case 0: return now.flights[rider];
            case 1: return now.areas[rider];
            case 2: return now.doors[rider];
            case 3: return now.people[rider];
            case 4: return now.riderReady(rider);
            case 5: return plan.vans[rider];
            case 6: return plan.waitOf(now, rider);
            case 7: return minuteAtDoor(rider);
            case 8: return plan.fare(now, rider);
            case 9: return plan.othersAtStop(now, rider);
            default: return BAD_VALUE;
        }
    }

    public int vanOf(int van, int what) {
        if (!isVan(van)) {
            return NO_SUCH;
        }
        way.follow(now, plan, van);
        switch (what) {
            case 0: return now.leaves[van];
            case 1: return now.seats[van];
            case 2: return plan.peopleIn[van];
            case 3: return plan.ridersIn(now, van);
            case 4: return plan.areasOf[van];
            case 5: return way.stops;
            case 6: return way.lastMinute();
            case 7: return plan.faresOf(now, van);
            default: return BAD_VALUE;
        }
    }

    public int flight(int flight, int what) {
        if (!isFlight(flight)) {
            return NO_SUCH;
        }
        switch (what) {
            case 0: return now.lands[flight];
            case 1: return now.delays[flight];
            case 2: return now.flightReady(flight);
            case 3: return plan.peopleOfFlight(now, flight, false);
            case 4: return plan.peopleOfFlight(now, flight, true);
            default: return BAD_VALUE;
        }
    }

    public int stop(int van, int place, int what) {
        if (!isVan(van)) {
            return NO_SUCH;
        }
        way.follow(now, plan, van);
        if (!isIn(place, 0, way.stops - 1)) {
            return NO_SUCH;
        }
        switch (what) {
            case 0: return State.areaOfStop(way.keys[place]);
            case 1: return State.doorOfStop(way.keys[place]);
            case 2: return way.minutes[place];
            case 3: return way.people[place];
            default: return BAD_VALUE;
        }
    }

    public int count(int what) {
        if (isIn(what, 0, SETTING_COUNT - 1)) {
            return now.settings[what];
        }
        switch (what) {
            case 5: return now.riders;
            case 6: return now.allPeople();
            case 7: return plan.strandedRiders;
            case 8: return plan.strandedPeople;
            case 9: return plan.waiting;
            case 10: return allFares();
            case 11: return plan.vansWithRiders();
            case 12: return allStops();
            case 13: return lastAtDoor(now, plan);
            case 14: return pad.length;
            case 15: return history.size;
            default: return BAD_VALUE;
        }
    }

    public int kerb(int minute) {
        if (!isIn(minute, 0, LAST_AT_KERB)) {
            return BAD_VALUE;
        }
        int people = 0;
        for (int rider = 0; rider < now.riders; rider++) {
            if (plan.isAtKerb(now, rider, minute)) {
                people += now.people[rider];
            }
        }
        return people;
    }

    // ---- what if; nothing changes

    public int ifDelayed(int flight, int minutes, int what) {
        if (!isFlight(flight)) {
            return NO_SUCH;
        }
        if (!isDelay(minutes) || !isIn(what, 0, 2)) {
            return BAD_VALUE;
        }
        trial.copyFrom(now);
        trial.delays[flight] = minutes;
        trialPlan.make(trial);
        if (what == 0) {
            return trialPlan.strandedPeople;
        }
        if (what == 1) {
            return trialPlan.waiting;
        }
        return lastAtDoor(trial, trialPlan);
    }

    public int mostDelay(int flight) {
        if (!isFlight(flight)) {
            return NO_SUCH;
        }
        trial.copyFrom(now);
        for (int minutes = GREATEST_DELAY; minutes > LEAST_DELAY; minutes--) {
            trial.delays[flight] = minutes;
            trialPlan.make(trial);
            if (trialPlan.strandedPeople <= plan.strandedPeople) {
                return minutes;
            }
        }
        // The delay of now strands no more than now, so nothing else is left.
        return LEAST_DELAY;
    }

    public int bestMinute(int van) {
        if (!isVan(van)) {
            return NO_SUCH;
        }
        int best = 0;
        int fewestStranded = 0;
        int leastWaiting = 0;
        trial.copyFrom(now);
        trialPlan.lineUp(trial);
        for (int minute = 0; minute <= LAST_LEAVING; minute += LEAVING_STEP) {
            trial.leaves[van] = minute;
            trialPlan.board(trial);
            int stranded = trialPlan.strandedPeople;
            int waiting = trialPlan.waiting;
            boolean better = stranded < fewestStranded || stranded == fewestStranded && waiting < leastWaiting;
            if (minute == 0 || better) {
                best = minute;
                fewestStranded = stranded;
                leastWaiting = waiting;
            }
        }
        return best;
    }

    public int fullest() {
        int fullest = NONE;
        int most = 0;
        for (int van = 0; van < VAN_COUNT; van++) {
            if (plan.peopleIn[van] > most) {
                fullest = van;
                most = plan.peopleIn[van];
            }
        }
        return fullest;
    }

    // ---- texts

    public int put(long characters) {
        int more = Pad.charactersIn(characters);
        if (more == 0) {
            return BAD_VALUE;
        }
        if (pad.length + more > PAD_SIZE) {
            return TOO_MANY;
        }
        pad.append(characters, more);
        return pad.length;
    }

    public int wipe() {
        int had = pad.length;
        pad.length = 0;
        return had;
    }

    public int fault() {
        return pad.firstFault();
    }

    // ---- undo, saving

    public int undo() {
        if (history.size == 0) {
            return NOT_POSSIBLE;
        }
        history.takeBack(now);
        plan.make(now);
        return history.size;
    }

    public int save(int slot) {
        if (!isSlot(slot)) {
            return BAD_VALUE;
        }
        State saved = slots[slot];
        if (saved == null) {
            saved = new State();
            slots[slot] = saved;
        }
        saved.copyFrom(now);
        return now.riders;
    }

    public int restore(int slot) {
        if (!isSlot(slot)) {
            return BAD_VALUE;
        }
        State saved = slots[slot];
        if (saved == null) {
            return NOT_POSSIBLE;
        }
        history.record(now);
        now.copyFrom(saved);
        plan.make(now);
        return now.riders;
    }

    // ---- helpers

    private static boolean isIn(int value, int least, int most) {
        return value >= least && value <= most;
    }

    private static boolean isFlight(int flight) {
        return isIn(flight, 0, FLIGHT_COUNT - 1);
    }

    private static boolean isDelay(int minutes) {
        return isIn(minutes, LEAST_DELAY, GREATEST_DELAY);
    }

    private static boolean isVan(int van) {
        return isIn(van, 0, VAN_COUNT - 1);
    }

    private static boolean isSlot(int slot) {
        return isIn(slot, 0, SLOT_COUNT - 1);
    }

    private boolean isRider(int rider) {
        return isIn(rider, 0, now.riders - 1);
    }

    private int minuteAtDoor(int rider) {
        int van = plan.vans[rider];
        if (!isVan(van)) {
            return NONE;
        }
        way.follow(now, plan, van);
        return way.minuteAt(now.stopKey(rider));
    }

    private int allFares() {
        int fares = 0;
        for (int rider = 0; rider < now.riders; rider++) {
            fares += plan.fare(now, rider);
        }
        return fares;
    }

    private int allStops() {
        int stops = 0;
        for (int van = 0; van < VAN_COUNT; van++) {
            way.follow(now, plan, van);
            stops += way.stops;
        }
        return stops;
    }

    private int lastAtDoor(State state, Plan planOfIt) {
        int last = NONE;
        for (int van = 0; van < VAN_COUNT; van++) {
            way.follow(state, planOfIt, van);
            if (way.stops > 0) {
                last = Math.max(last, way.lastMinute());
            }
        }
        return last;
    }

    /** All that undo and the slots bring back. */
    private static final class State {
        final int[] settings = new int[SETTING_COUNT];
        final int[] lands = new int[FLIGHT_COUNT];
        final int[] delays = new int[FLIGHT_COUNT];
        final int[] leaves = new int[VAN_COUNT];
        final int[] seats = new int[VAN_COUNT];
        final int[] flights = new int[MOST_RIDERS];
        final int[] areas = new int[MOST_RIDERS];
        final int[] doors = new int[MOST_RIDERS];
        final int[] people = new int[MOST_RIDERS];
        int riders;

        State() {
            for (int setting = 0; setting < SETTING_COUNT; setting++) {
                settings[setting] = SETTING_FIRST[setting];
            }
            for (int flight = 0; flight < FLIGHT_COUNT; flight++) {
                lands[flight] = 60 * flight;
            }
            for (int van = 0; van < VAN_COUNT; van++) {
                leaves[van] = 60 * van + 60;
                seats[van] = 6;
            }
        }

        void copyFrom(State other) {
            System.arraycopy(other.settings, 0, settings, 0, SETTING_COUNT);
            System.arraycopy(other.lands, 0, lands, 0, FLIGHT_COUNT);
            System.arraycopy(other.delays, 0, delays, 0, FLIGHT_COUNT);
            System.arraycopy(other.leaves, 0, leaves, 0, VAN_COUNT);
            System.arraycopy(other.seats, 0, seats, 0, VAN_COUNT);
            System.arraycopy(other.flights, 0, flights, 0, MOST_RIDERS);
            System.arraycopy(other.areas, 0, areas, 0, MOST_RIDERS);
            System.arraycopy(other.doors, 0, doors, 0, MOST_RIDERS);
            System.arraycopy(other.people, 0, people, 0, MOST_RIDERS);
            riders = other.riders;
        }

        void addRider(int flight, int area, int door, int peopleOfIt) {
            if (riders >= MOST_RIDERS) {
                return;
            }
            flights[riders] = flight;
            areas[riders] = area;
            doors[riders] = door;
            people[riders] = peopleOfIt;
            riders++;
        }

        void removeRider(int gone) {
            for (int rider = gone; rider < riders - 1; rider++) {
                flights[rider] = flights[rider + 1];
                areas[rider] = areas[rider + 1];
                doors[rider] = doors[rider + 1];
                people[rider] = people[rider + 1];
            }
            riders--;
        }

        int flightReady(int flight) {
            return lands[flight] + delays[flight] + settings[BAGS];
        }

        int riderReady(int rider) {
            return flightReady(flights[rider]);
        }

        int allPeople() {
            int all = 0;
            for (int rider = 0; rider < riders; rider++) {
                all += people[rider];
            }
            return all;
        }

        // Keys of stops stand in the order of the way: by areas, in an area by doors.
        int stopKey(int rider) {
            return areas[rider] * DOOR_COUNT + doors[rider];
        }

        static int areaOfStop(int key) {
            return key / DOOR_COUNT;
        }

        static int doorOfStop(int key) {
            return key % DOOR_COUNT;
        }
    }

    /** Who gets which van in a state, and who pays what. Its rows are used again each time. */
    private static final class Plan {
        final int[] order = new int[MOST_RIDERS];
        final int[] ready = new int[MOST_RIDERS];
        final int[] vans = new int[MOST_RIDERS];
        final int[] peopleIn = new int[VAN_COUNT];
        final int[] areasOf = new int[VAN_COUNT];
        int strandedRiders;
        int strandedPeople;
        int waiting;

        void make(State state) {
            lineUp(state);
            board(state);
        }

        // Apart from board, since a van that leaves at another minute leaves the line as it is.
        void lineUp(State state) {
            for (int rider = 0; rider < state.riders; rider++) {
                ready[rider] = state.riderReady(rider);
                int place = rider;
                // Only those who are ready later are passed: of several, the lower number stays ahead.
                while (place > 0 && ready[order[place - 1]] > ready[rider]) {
                    order[place] = order[place - 1];
                    place--;
                }
                order[place] = rider;
            }
        }

        void board(State state) {
            for (int van = 0; van < VAN_COUNT; van++) {
                peopleIn[van] = 0;
                areasOf[van] = 0;
            }
            strandedRiders = 0;
            strandedPeople = 0;
            waiting = 0;
            for (int place = 0; place < state.riders; place++) {
                boardOne(state, order[place]);
            }
        }

        private void boardOne(State state, int rider) {
            int people = state.people[rider];
            int van = firstVanFor(state, rider);
            vans[rider] = van;
            if (!isVan(van)) {
                strandedRiders++;
                strandedPeople += people;
                return;
            }
            peopleIn[van] += people;
            areasOf[van] |= 1 << state.areas[rider];
            waiting += people * (state.leaves[van] - ready[rider]);
        }

        private int firstVanFor(State state, int rider) {
            int first = NONE;
            int minute = 0;
            for (int van = 0; van < VAN_COUNT; van++) {
                boolean earlier = first == NONE || state.leaves[van] < minute;
                if (earlier && takes(state, van, rider)) {
                    first = van;
                    minute = state.leaves[van];
                }
            }
            return first;
        }

        private boolean takes(State state, int van, int rider) {
            int wait = state.leaves[van] - ready[rider];
            if (!isIn(wait, 0, state.settings[PATIENCE])) {
                return false;
            }
            if (peopleIn[van] + state.people[rider] > state.seats[van]) {
                return false;
            }
            int areas = areasOf[van] | 1 << state.areas[rider];
            return Integer.bitCount(areas) <= state.settings[AREAS];
        }

        int waitOf(State state, int rider) {
            int van = vans[rider];
            return isVan(van) ? state.leaves[van] - ready[rider] : NONE;
        }

        boolean isAtKerb(State state, int rider, int minute) {
            if (ready[rider] > minute) {
                return false;
            }
            int van = vans[rider];
            if (isVan(van)) {
                return state.leaves[van] > minute;
            }
            return minute - ready[rider] <= state.settings[PATIENCE];
        }

        int ridersIn(State state, int van) {
            int set = 0;
            for (int rider = 0; rider < state.riders; rider++) {
                if (vans[rider] == van) {
                    set |= 1 << rider;
                }
            }
            return set;
        }

        int vansWithRiders() {
            int count = 0;
            for (int van = 0; van < VAN_COUNT; van++) {
                if (peopleIn[van] > 0) {
                    count++;
                }
            }
            return count;
        }

        int peopleOfFlight(State state, int flight, boolean onlyStranded) {
            int people = 0;
            for (int rider = 0; rider < state.riders; rider++) {
                boolean counts = !onlyStranded || vans[rider] == NONE;
                if (counts && state.flights[rider] == flight) {
                    people += state.people[rider];
                }
            }
            return people;
        }

        int othersAtStop(State state, int rider) {
            if (vans[rider] == NONE) {
                return 0;
            }
            int others = 0;
            for (int other = 0; other < state.riders; other++) {
                if (other != rider && shares(state, rider, other, true)) {
                    others++;
                }
            }
            return others;
        }

        int faresOf(State state, int van) {
            int fares = 0;
            for (int rider = 0; rider < state.riders; rider++) {
                if (vans[rider] == van) {
                    fares += fare(state, rider);
                }
            }
            return fares;
        }

        int fare(State state, int rider) {
            if (vans[rider] == NONE) {
                return 0;
            }
            return share(state, rider, COST, false) + share(state, rider, DOOR, true);
        }

        private int share(State state, int payer, int setting, boolean byStop) {
            int coins = state.settings[setting];
            int all = 0;
            for (int rider = 0; rider < state.riders; rider++) {
                if (shares(state, payer, rider, byStop)) {
                    all += state.people[rider];
                }
            }
            if (all <= 0) {
                return 0;
            }
            int leftOver = coins;
            int lower = 0;
            for (int rider = 0; rider < state.riders; rider++) {
                if (shares(state, payer, rider, byStop)) {
                    leftOver -= coins * state.people[rider] / all;
                    lower += rider < payer ? 1 : 0;
                }
            }
            int own = coins * state.people[payer] / all;
            return lower < leftOver ? own + 1 : own;
        }

        private boolean shares(State state, int one, int other, boolean byStop) {
            return vans[one] == vans[other] && (!byStop || state.stopKey(one) == state.stopKey(other));
        }
    }

    /** The stops of one van, from the first to the last. Its rows are used again each time. */
    private static final class Way {
        final int[] keys = new int[MOST_RIDERS];
        final int[] people = new int[MOST_RIDERS];
        final int[] minutes = new int[MOST_RIDERS];
        int stops;

        void follow(State state, Plan plan, int van) {
            stops = 0;
            for (int rider = 0; rider < state.riders; rider++) {
                if (plan.vans[rider] == van) {
                    letOut(state.stopKey(rider), state.people[rider]);
                }
            }
            tellMinutes(state.leaves[van]);
        }

        private void letOut(int key, int peopleOfRider) {
            int place = placeFor(key);
            if (place >= MOST_RIDERS) {
                return;
            }
            if (place == stops || keys[place] != key) {
                openStop(place, key);
            }
            people[place] += peopleOfRider;
        }

        private int placeFor(int key) {
            int place = 0;
            while (place < stops && keys[place] < key) {
                place++;
            }
            return place;
        }

        private void openStop(int place, int key) {
            if (stops >= MOST_RIDERS) {
                return;
            }
            for (int later = stops; later > place; later--) {
                keys[later] = keys[later - 1];
                people[later] = people[later - 1];
            }
            keys[place] = key;
            people[place] = 0;
            stops++;
        }

        private void tellMinutes(int leaving) {
            for (int place = 0; place < stops; place++) {
                int area = State.areaOfStop(keys[place]);
                if (place == 0) {
                    minutes[place] = leaving + 10 + 5 * area;
                } else {
                    int areasOn = area - State.areaOfStop(keys[place - 1]);
                    minutes[place] = minutes[place - 1] + (areasOn > 0 ? 5 * areasOn : 3);
                }
            }
        }

        int lastMinute() {
            return stops > 0 ? minutes[stops - 1] : NONE;
        }

        int minuteAt(int key) {
            int place = placeFor(key);
            return place < stops ? minutes[place] : NONE;
        }
    }

    /** The text of riders that are to come. */
    private static final class Pad {
        // What may come next in the text of a rider.
        private static final int FLIGHT_NEXT = 0;
        private static final int AREA_NEXT = 1;
        private static final int DOOR_NEXT = 2;
        private static final int DIGIT_OR_END_NEXT = 3;
        private static final int X_OR_END_NEXT = 4;
        private static final int PEOPLE_NEXT = 5;
        private static final int END_NEXT = 6;
        private static final int NOTHING = 7;

        // A number holds no more characters.
        private static final int LONG_SIZE = 8;

        final int[] codes = new int[PAD_SIZE];
        int length;

        /** 0 if the number is no text that can be put. */
        static int charactersIn(long characters) {
            int count = 0;
            long rest = characters;
            while (rest != 0 && count < LONG_SIZE) {
                // 8 bits that are 0 below others fall out here, too.
                if (!isIn((int) (rest & 255), 33, 126)) {
                    return 0;
                }
                rest >>>= 8;
                count++;
            }
            return count;
        }

        void append(long characters, int more) {
            if (more < 0 || length + more > PAD_SIZE) {
                return;
            }
            long rest = characters;
            for (int place = length + more - 1; place >= length; place--) {
                codes[place] = (int) (rest & 255);
                rest >>>= 8;
            }
            length += more;
        }

        int firstFault() {
            int next = FLIGHT_NEXT;
            for (int place = 0; place < length; place++) {
                next = after(next, codes[place]);
                if (next == NOTHING) {
                    return place;
                }
            }
            return mayEnd(next) ? NONE : length;
        }

        private static boolean mayEnd(int next) {
            return next == DIGIT_OR_END_NEXT || next == X_OR_END_NEXT || next == END_NEXT;
        }

        private static int after(int next, int code) {
            switch (next) {
                case FLIGHT_NEXT: return isIn(code, '0', '5') ? AREA_NEXT : NOTHING;
                case AREA_NEXT: return isIn(code, 'a', 'f') ? DOOR_NEXT : NOTHING;
                case DOOR_NEXT: return afterFirstDigit(code);
                case DIGIT_OR_END_NEXT: return isDigit(code) ? X_OR_END_NEXT : afterDoor(code);
                case X_OR_END_NEXT: return afterDoor(code);
                case PEOPLE_NEXT: return isIn(code, '1', '4') ? END_NEXT : NOTHING;
                case END_NEXT: return code == ',' ? FLIGHT_NEXT : NOTHING;
                default: return NOTHING;
            }
        }

        private static int afterFirstDigit(int code) {
            if (!isDigit(code)) {
                return NOTHING;
            }
            // A leading 0 is the whole door.
            return code == '0' ? X_OR_END_NEXT : DIGIT_OR_END_NEXT;
        }

        private static int afterDoor(int code) {
            if (code == 'x') {
                return PEOPLE_NEXT;
            }
            return code == ',' ? FLIGHT_NEXT : NOTHING;
        }

        private static boolean isDigit(int code) {
            return isIn(code, '0', '9');
        }

        /** Of a text without a fault. */
        int riderCount() {
            int count = 1;
            for (int place = 0; place < length; place++) {
                if (codes[place] == ',') {
                    count++;
                }
            }
            return count;
        }

        /** Of a text without a fault. */
        void addRidersTo(State state) {
            int count = riderCount();
            int place = 0;
            for (int rider = 0; rider < count; rider++) {
                // One behind the rider stands the comma.
                place = addRiderTo(state, place) + 1;
            }
        }

        private int addRiderTo(State state, int start) {
            int flight = codeAt(start) - '0';
            int area = codeAt(start + 1) - 'a';
            int door = codeAt(start + 2) - '0';
            int place = start + 3;
            if (isDigit(codeAt(place))) {
                door = 10 * door + codeAt(place) - '0';
                place++;
            }
            int people = 1;
            if (codeAt(place) == 'x') {
                people = codeAt(place + 1) - '0';
                place += 2;
            }
            state.addRider(flight, area, door, people);
            return place;
        }

        private int codeAt(int place) {
            return isIn(place, 0, length - 1) ? codes[place] : 0;
        }
    }

    /** The states before the latest changes, in a ring: the oldest one makes room for one more. */
    private static final class History {
        final State[] states = new State[HISTORY_SIZE];
        int oldest;
        int size;

        History() {
            for (int place = 0; place < HISTORY_SIZE; place++) {
                states[place] = new State();
            }
        }

        void record(State state) {
            if (size >= HISTORY_SIZE) {
                oldest = (oldest + 1) % HISTORY_SIZE;
                size--;
            }
            states[(oldest + size) % HISTORY_SIZE].copyFrom(state);
            size++;
        }

        void takeBack(State state) {
            if (size <= 0) {
                return;
            }
            size--;
            state.copyFrom(states[(oldest + size) % HISTORY_SIZE]);
        }
    }
}
