/**
 * A planner for the mirrors of a telescope: dust, coatings, crews, a plan of cleanings, the search
 * for the best days, orders in words, undo and snapshots. The answers are told in DOC.md.
 */
public final class MirrorPlanner {
    public static final int UNKNOWN = -1000001;
    public static final int BAD_VALUE = -1000002;
    public static final int REFUSED = -1000003;
    public static final int FULL = -1000004;
    public static final int NONE = -1000005;

    private static final int LAST_NIGHT = 9999;
    private static final int MOST_NIGHTS = 60;

    private static final int SNOW = 0;
    private static final int WASH = 1;
    private static final int COAT = 2;
    private static final int NO_KIND = -1;

    /** What a check answers when nothing stands against the call. */
    private static final int FINE = 0;
    private static final int TOO_FEW_PEOPLE = 1;
    private static final int TOO_FEW_HOURS = 2;
    private static final int SAME_DAY = 3;
    private static final int PLAN_FULL = 4;
    private static final int PERIODS_FULL = 5;
    private static final int CAUSE_UNKNOWN = 11;
    private static final int CAUSE_BAD_VALUE = 12;

    private final State state = new State();
    private final History history = new History();
    private final Snapshots snapshots = new Snapshots();
    private final Orders orders = new Orders();
    private final Forecast forecast = new Forecast();
    private int reason;
    private int failedOrder = NONE;
    private int failedCause = NONE;

    public MirrorPlanner() {
    }

    // ---- mirrors, nights, crews

    public int addMirror(int weight, int wear) {
        if (isOutside(weight, 0, 100) || isOutside(wear, 0, 20)) {
            return BAD_VALUE;
        }
        if (state.mirrorCount >= State.MOST_MIRRORS) {
            return FULL;
        }
        history.push(state);
        return state.newMirror(weight, wear);
    }

    public int setDust(int from, int to, int rate) {
        if (isNoPeriod(from, to) || isOutside(rate, 0, 500)) {
            return BAD_VALUE;
        }
        if (state.dustRates.isFull()) {
            return refuse(PERIODS_FULL);
        }
        history.push(state);
        return state.dustRates.tell(from, to, rate);
    }

    public int setMagnitude(int from, int to, int magnitude) {
        if (isNoPeriod(from, to) || isOutside(magnitude, 0, 30)) {
            return BAD_VALUE;
        }
        if (state.magnitudes.isFull()) {
            return refuse(PERIODS_FULL);
        }
        history.push(state);
        return state.magnitudes.tell(from, to, magnitude);
    }

    public int clearPeriods() {
        int cleared = state.dustRates.size + state.magnitudes.size;
        if (cleared == 0) {
            return NONE;
        }
        history.push(state);
        state.dustRates.size = 0;
        state.magnitudes.size = 0;
        return cleared;
    }

    public int addPerson() {
        if (state.crew.size >= Crew.MOST_PEOPLE) {
            return FULL;
        }
        history.push(state);
        return state.crew.newPerson();
    }

    public int setHours(int person, int weekday, int hours) {
        if (!state.crew.has(person)) {
            return UNKNOWN;
        }
        if (isOutside(weekday, 0, Crew.WEEKDAYS - 1) || isOutside(hours, 0, 12)) {
            return BAD_VALUE;
        }
        history.push(state);
        return state.crew.changeShift(person, weekday, hours);
    }

    public int setOff(int person, int from, int to) {
        if (!state.crew.has(person)) {
            return UNKNOWN;
        }
        if (isNoPeriod(from, to)) {
            return BAD_VALUE;
        }
        history.push(state);
        state.crew.changeOff(person, from, to);
        return to - from + 1;
    }

    // ---- plan

    public int addCleaning(int mirror, int kind, int ahead) {
        if (!state.hasMirror(mirror)) {
            return UNKNOWN;
        }
        if (isNoKind(kind) || isOutside(ahead, 0, MOST_NIGHTS - 1)) {
            return BAD_VALUE;
        }
        int day = state.present + ahead;
        int against = state.reasonAgainst(mirror, kind, day);
        if (against != FINE) {
            return refuse(against);
        }
        history.push(state);
        return state.plan.insert(mirror, kind, day);
    }

    public int dropCleaning(int place) {
        if (!state.plan.has(place)) {
            return UNKNOWN;
        }
        history.push(state);
        state.plan.remove(place);
        return state.plan.size;
    }

    public int bestDay(int mirror, int kind, int nights) {
        if (!state.hasMirror(mirror)) {
            return UNKNOWN;
        }
        if (isNoKind(kind) || isNoStretch(nights)) {
            return BAD_VALUE;
        }
        forecast.lookAhead(state, nights);
        forecast.takeMirror(state, mirror, true);
        forecast.findOpenDays(state, mirror, kind);
        return forecast.bestSingle(kind);
    }

    public int bestPair(int mirror, int kind, int nights) {
        if (!state.hasMirror(mirror)) {
            return UNKNOWN;
        }
        if (isNoKind(kind) || isNoStretch(nights)) {
            return BAD_VALUE;
        }
        if (state.plan.size + 2 > Plan.MOST_CLEANINGS) {
            return NONE;
        }
        forecast.lookAhead(state, nights);
        forecast.takeMirror(state, mirror, true);
        forecast.findOpenDays(state, mirror, kind);
        return forecast.bestTwo(kind);
    }

    public long pass(int nights) {
        if (isNoStretch(nights)) {
            return BAD_VALUE;
        }
        history.push(state);
        long sum = 0;
        for (int i = 0; i < nights; i++) {
            sum += state.passNight();
        }
        return sum;
    }

    // ---- orders

    public int type(char character) {
        if (orders.length >= Orders.MOST_SIGNS) {
            return FULL;
        }
        return orders.append(character);
    }

    public int clearText() {
        int cleared = orders.length;
        orders.length = 0;
        return cleared;
    }

    public int runOrders() {
        int fault = orders.findFault();
        if (fault != Orders.NO_FAULT) {
            return -100 - fault;
        }
        history.push(state);
        failedOrder = NONE;
        failedCause = NONE;
        int done = 0;
        history.paused = true;
        orders.goToBegin();
        for (int i = 0; i < Orders.MOST_SIGNS && orders.goesOn && failedOrder == NONE; i++) {
            orders.readOrder();
            long answer = carryOutOrder();
            if (answer < 0) {
                failedOrder = done;
                failedCause = causeOf(answer);
            } else {
                done++;
            }
        }
        history.paused = false;
        return done;
    }

    public int failure(int what) {
        switch (what) {
            case 0:
                return failedOrder;
            case 1:
                return failedCause;
            default:
                return BAD_VALUE;
        }
    }

    // ---- history

    public int undo() {
        if (history.size == 0) {
            return NONE;
        }
        history.takeLatest(state);
        return history.size;
    }

    public int keep(int slot) {
        if (!snapshots.has(slot)) {
            return UNKNOWN;
        }
        snapshots.store(slot, state);
        return state.present;
    }

    public int restore(int slot) {
        if (!snapshots.has(slot)) {
            return UNKNOWN;
        }
        if (snapshots.isEmpty(slot)) {
            return NONE;
        }
        history.push(state);
        snapshots.fetch(slot, state);
        return state.present;
    }

    // ---- what there is

    public int mirror(int mirror, int what) {
        if (!state.hasMirror(mirror)) {
            return UNKNOWN;
        }
        Mirror asked = state.mirrors[mirror];
        switch (what) {
            case 0:
                return asked.weight;
            case 1:
                return asked.wear;
            case 2:
                return asked.dust;
            case 3:
                return asked.age;
            case 4:
                return asked.cleanings;
            case 5:
                return asked.lossInNight();
            default:
                return BAD_VALUE;
        }
    }

    public long lost(int mirror) {
        if (!state.hasMirror(mirror)) {
            return UNKNOWN;
        }
        return state.mirrors[mirror].lostSoFar;
    }

    public long lossAhead(int nights, int what) {
        if (isNoStretch(nights) || isOutside(what, 0, 1)) {
            return BAD_VALUE;
        }
        forecast.lookAhead(state, nights);
        long sum = 0;
        for (int i = 0; i < state.mirrorCount; i++) {
            forecast.takeMirror(state, i, what == 0);
            sum += forecast.lossFrom(forecast.asPlanned, 0);
        }
        return sum;
    }

    public int night(int night, int what) {
        if (isOutside(night, 0, LAST_NIGHT)) {
            return BAD_VALUE;
        }
        switch (what) {
            case 0:
                return state.dustRates.valueOf(night);
            case 1:
                return state.magnitudes.valueOf(night);
            default:
                return BAD_VALUE;
        }
    }

    public int day(int day, int what) {
        if (isOutside(day, 0, LAST_NIGHT)) {
            return BAD_VALUE;
        }
        switch (what) {
            case 0:
                return state.crew.peopleOn(day);
            case 1:
                return state.crew.hoursOn(day);
            case 2:
                return state.crew.hoursOn(day) - state.plan.hoursOn(day);
            default:
                return BAD_VALUE;
        }
    }

    public int hours(int person, int weekday) {
        if (!state.crew.has(person)) {
            return UNKNOWN;
        }
        if (isOutside(weekday, 0, Crew.WEEKDAYS - 1)) {
            return BAD_VALUE;
        }
        return state.crew.shiftOf(person, weekday);
    }

    public int planned(int place, int what) {
        if (place < 0 || isOutside(what, 0, 2)) {
            return BAD_VALUE;
        }
        if (!state.plan.has(place)) {
            return NONE;
        }
        switch (what) {
            case 0:
                return state.plan.mirrors[place];
            case 1:
                return state.plan.kinds[place];
            default:
                return state.plan.days[place];
        }
    }

    public int log(int entry, int what) {
        if (entry < 0 || isOutside(what, 0, 3)) {
            return BAD_VALUE;
        }
        if (!state.logbook.has(entry)) {
            return NONE;
        }
        switch (what) {
            case 0:
                return state.logbook.mirrors[entry];
            case 1:
                return state.logbook.kinds[entry];
            case 2:
                return state.logbook.days[entry];
            default:
                return state.logbook.done[entry];
        }
    }

    public int count(int what) {
        switch (what) {
            case 0:
                return state.present;
            case 1:
                return state.mirrorCount;
            case 2:
                return state.crew.size;
            case 3:
                return state.plan.size;
            case 4:
                return state.logbook.size;
            case 5:
                return reason;
            case 6:
                return history.size;
            case 7:
                return state.doneCount;
            case 8:
                return state.missedCount;
            case 9:
                return state.hoursWorked;
            default:
                return BAD_VALUE;
        }
    }

    // ---- checks

    private static boolean isOutside(int value, int low, int high) {
        return value < low || value > high;
    }

    private static boolean isNoPeriod(int from, int to) {
        return isOutside(from, 0, LAST_NIGHT) || isOutside(to, from, LAST_NIGHT);
    }

    private static boolean isNoStretch(int nights) {
        return isOutside(nights, 1, MOST_NIGHTS);
    }

    private static boolean isNoKind(int kind) {
        return isOutside(kind, SNOW, COAT);
    }

    // ---- acts

    private int refuse(int why) {
        reason = why;
        return REFUSED;
    }

    /** What the method of the order answers, less than 0 for errors alone. */
    private long carryOutOrder() {
        int first = orders.numbers[0];
        int second = orders.numbers[1];
        switch (orders.word) {
            case Orders.DROP:
                return dropCleaning(first);
            case Orders.NIGHTS:
                return pass(first);
            case Orders.DUST:
                return setDust(state.present + first, state.present + second, orders.numbers[2]);
            default:
                return addCleaning(first, kindOfWord(orders.word), second);
        }
    }

    private int causeOf(long error) {
        if (error == UNKNOWN) {
            return CAUSE_UNKNOWN;
        }
        if (error == BAD_VALUE) {
            return CAUSE_BAD_VALUE;
        }
        return reason;
    }

    private static int kindOfWord(int word) {
        switch (word) {
            case Orders.SNOW_WORD:
                return SNOW;
            case Orders.WASH_WORD:
                return WASH;
            case Orders.COAT_WORD:
                return COAT;
            default:
                return NO_KIND;
        }
    }

    // ---- kinds of cleanings

    private static int peopleFor(int kind) {
        switch (kind) {
            case SNOW:
                return 1;
            case WASH:
                return 2;
            default:
                return 3;
        }
    }

    private static int hoursFor(int kind) {
        switch (kind) {
            case SNOW:
                return 1;
            case WASH:
                return 4;
            default:
                return 12;
        }
    }

    private static boolean canBeDone(int kind, int people, int hoursLeft) {
        return people >= peopleFor(kind) && hoursLeft >= hoursFor(kind);
    }

    private static int lightFactor(int magnitude) {
        return 100 + magnitude * magnitude;
    }

    /** All that undo and snapshots bring back. */
    private static final class State {
        static final int MOST_MIRRORS = 4;
        private static final int USUAL_RATE = 20;
        private static final int USUAL_MAGNITUDE = 15;

        final Mirror[] mirrors = new Mirror[MOST_MIRRORS];
        final Periods dustRates = new Periods(USUAL_RATE);
        final Periods magnitudes = new Periods(USUAL_MAGNITUDE);
        final Crew crew = new Crew();
        final Plan plan = new Plan();
        final Logbook logbook = new Logbook();
        int mirrorCount;
        int present;
        int doneCount;
        int missedCount;
        int hoursWorked;

        State() {
            for (int i = 0; i < MOST_MIRRORS; i++) {
                mirrors[i] = new Mirror();
            }
        }

        void copyFrom(State other) {
            for (int i = 0; i < MOST_MIRRORS; i++) {
                mirrors[i].copyFrom(other.mirrors[i]);
            }
            dustRates.copyFrom(other.dustRates);
            magnitudes.copyFrom(other.magnitudes);
            crew.copyFrom(other.crew);
            plan.copyFrom(other.plan);
            logbook.copyFrom(other.logbook);
            mirrorCount = other.mirrorCount;
            present = other.present;
            doneCount = other.doneCount;
            missedCount = other.missedCount;
            hoursWorked = other.hoursWorked;
        }

        boolean hasMirror(int mirror) {
            return mirror >= 0 && mirror < mirrorCount;
        }

        int newMirror(int weight, int wear) {
            if (mirrorCount >= MOST_MIRRORS) {
                return FULL;
            }
            mirrors[mirrorCount].begin(weight, wear);
            mirrorCount++;
            return mirrorCount - 1;
        }

        int reasonAgainst(int mirror, int kind, int day) {
            if (crew.peopleOn(day) < peopleFor(kind)) {
                return TOO_FEW_PEOPLE;
            }
            if (crew.hoursOn(day) < plan.hoursOn(day) + hoursFor(kind)) {
                return TOO_FEW_HOURS;
            }
            if (plan.hasMirrorOn(mirror, day)) {
                return SAME_DAY;
            }
            if (plan.size >= Plan.MOST_CLEANINGS) {
                return PLAN_FULL;
            }
            return FINE;
        }

        /** The kind of the planned cleaning of the mirror that will be done on this day, or NO_KIND. */
        int kindDoneOn(int mirror, int day) {
            int people = crew.peopleOn(day);
            int hoursLeft = crew.hoursOn(day);
            for (int i = 0; i < plan.size; i++) {
                int kind = plan.kinds[i];
                if (plan.days[i] == day && canBeDone(kind, people, hoursLeft)) {
                    if (plan.mirrors[i] == mirror) {
                        return kind;
                    }
                    hoursLeft -= hoursFor(kind);
                }
            }
            return NO_KIND;
        }

        long passNight() {
            workThroughDay();
            int rate = dustRates.valueOf(present);
            int factor = lightFactor(magnitudes.valueOf(present));
            long sum = 0;
            for (int i = 0; i < mirrorCount; i++) {
                sum += mirrors[i].spendNight(rate, factor);
            }
            present++;
            return sum;
        }

        private void workThroughDay() {
            int people = crew.peopleOn(present);
            int hoursLeft = crew.hoursOn(present);
            for (int i = 0; i < Plan.MOST_CLEANINGS && plan.startsWith(present); i++) {
                int mirror = plan.mirrors[0];
                int kind = plan.kinds[0];
                plan.remove(0);
                boolean able = canBeDone(kind, people, hoursLeft);
                if (able) {
                    hoursLeft -= hoursFor(kind);
                    doCleaning(mirror, kind);
                } else {
                    missedCount++;
                }
                logbook.enter(mirror, kind, present, able);
            }
        }

        private void doCleaning(int mirror, int kind) {
            doneCount++;
            hoursWorked += hoursFor(kind);
            if (hasMirror(mirror)) {
                mirrors[mirror].clean(kind);
                mirrors[mirror].cleanings++;
            }
        }
    }

    private static final class Mirror {
        private static final int MOST_DUST = 100000;
        private static final int MOST_LOSS = 10000;

        int weight;
        int wear;
        int dust;
        int age;
        int cleanings;
        long lostSoFar;

        void begin(int newWeight, int newWear) {
            weight = newWeight;
            wear = newWear;
            dust = 0;
            age = 0;
            cleanings = 0;
            lostSoFar = 0;
        }

        void copyFrom(Mirror other) {
            weight = other.weight;
            wear = other.wear;
            dust = other.dust;
            age = other.age;
            cleanings = other.cleanings;
            lostSoFar = other.lostSoFar;
        }

        int lossInNight() {
            return Math.min(dust / 10 + age * wear, MOST_LOSS);
        }

        void clean(int kind) {
            switch (kind) {
                case SNOW:
                    dust = dust / 2;
                    break;
                case WASH:
                    dust = dust / 20;
                    break;
                case COAT:
                    dust = 0;
                    age = 0;
                    break;
                default:
                    break;
            }
        }

        long spendNight(int rate, int factor) {
            dust = Math.min(dust + rate, MOST_DUST);
            age++;
            long lostNow = (long) weight * lossInNight() * factor / 1000;
            lostSoFar += lostNow;
            return lostNow;
        }
    }

    /** The periods of one sort, in the order in which they were told. */
    private static final class Periods {
        private static final int MOST_PERIODS = 10;

        final int[] firsts = new int[MOST_PERIODS];
        final int[] lasts = new int[MOST_PERIODS];
        final int[] values = new int[MOST_PERIODS];
        final int usual;
        int size;

        Periods(int usual) {
            this.usual = usual;
        }

        void copyFrom(Periods other) {
            System.arraycopy(other.firsts, 0, firsts, 0, MOST_PERIODS);
            System.arraycopy(other.lasts, 0, lasts, 0, MOST_PERIODS);
            System.arraycopy(other.values, 0, values, 0, MOST_PERIODS);
            size = other.size;
        }

        boolean isFull() {
            return size >= MOST_PERIODS;
        }

        int tell(int from, int to, int value) {
            if (isFull()) {
                return FULL;
            }
            firsts[size] = from;
            lasts[size] = to;
            values[size] = value;
            size++;
            return size;
        }

        int valueOf(int night) {
            for (int i = size - 1; i >= 0; i--) {
                if (firsts[i] <= night && night <= lasts[i]) {
                    return values[i];
                }
            }
            return usual;
        }
    }

    private static final class Crew {
        static final int MOST_PEOPLE = 5;
        static final int WEEKDAYS = 7;
        /** Above every day that is off: nobody is off from here at first. */
        private static final int NEVER = LAST_NIGHT + 1;

        final int[] shifts = new int[MOST_PEOPLE * WEEKDAYS];
        final int[] offFirst = new int[MOST_PEOPLE];
        final int[] offLast = new int[MOST_PEOPLE];
        int size;

        void copyFrom(Crew other) {
            System.arraycopy(other.shifts, 0, shifts, 0, MOST_PEOPLE * WEEKDAYS);
            System.arraycopy(other.offFirst, 0, offFirst, 0, MOST_PEOPLE);
            System.arraycopy(other.offLast, 0, offLast, 0, MOST_PEOPLE);
            size = other.size;
        }

        boolean has(int person) {
            return person >= 0 && person < size;
        }

        int newPerson() {
            if (size >= MOST_PEOPLE) {
                return FULL;
            }
            for (int i = 0; i < WEEKDAYS; i++) {
                shifts[size * WEEKDAYS + i] = 0;
            }
            offFirst[size] = NEVER;
            offLast[size] = -1;
            size++;
            return size - 1;
        }

        int shiftOf(int person, int weekday) {
            if (!has(person) || isOutside(weekday, 0, WEEKDAYS - 1)) {
                return 0;
            }
            return shifts[person * WEEKDAYS + weekday];
        }

        int changeShift(int person, int weekday, int newHours) {
            if (!has(person) || isOutside(weekday, 0, WEEKDAYS - 1)) {
                return 0;
            }
            int previous = shifts[person * WEEKDAYS + weekday];
            shifts[person * WEEKDAYS + weekday] = newHours;
            return previous;
        }

        void changeOff(int person, int from, int to) {
            if (has(person)) {
                offFirst[person] = from;
                offLast[person] = to;
            }
        }

        /** The hours for which the person is on shift on the day, 0 if off. */
        private int hoursOfPerson(int person, int day) {
            if (person < 0 || person >= size || day < 0) {
                return 0;
            }
            if (offFirst[person] <= day && day <= offLast[person]) {
                return 0;
            }
            return shifts[person * WEEKDAYS + day % WEEKDAYS];
        }

        int peopleOn(int day) {
            int people = 0;
            for (int i = 0; i < size; i++) {
                if (hoursOfPerson(i, day) > 0) {
                    people++;
                }
            }
            return people;
        }

        int hoursOn(int day) {
            int sum = 0;
            for (int i = 0; i < size; i++) {
                sum += hoursOfPerson(i, day);
            }
            return sum;
        }
    }

    /** The cleanings to come by ascending days, those of one day in the order of their adding. */
    private static final class Plan {
        static final int MOST_CLEANINGS = 12;

        final int[] mirrors = new int[MOST_CLEANINGS];
        final int[] kinds = new int[MOST_CLEANINGS];
        final int[] days = new int[MOST_CLEANINGS];
        int size;

        void copyFrom(Plan other) {
            System.arraycopy(other.mirrors, 0, mirrors, 0, MOST_CLEANINGS);
            System.arraycopy(other.kinds, 0, kinds, 0, MOST_CLEANINGS);
            System.arraycopy(other.days, 0, days, 0, MOST_CLEANINGS);
            size = other.size;
        }

        boolean has(int place) {
            return place >= 0 && place < size;
        }

        int insert(int mirror, int kind, int day) {
            if (size >= MOST_CLEANINGS) {
                return FULL;
            }
            int place = size;
            while (place > 0 && days[place - 1] > day) {
                mirrors[place] = mirrors[place - 1];
                kinds[place] = kinds[place - 1];
                days[place] = days[place - 1];
                place--;
            }
            mirrors[place] = mirror;
            kinds[place] = kind;
            days[place] = day;
            size++;
            return place;
        }

        void remove(int place) {
            if (!has(place)) {
                return;
            }
            for (int i = place + 1; i < size; i++) {
                mirrors[i - 1] = mirrors[i];
                kinds[i - 1] = kinds[i];
                days[i - 1] = days[i];
            }
            size--;
        }

        boolean startsWith(int day) {
            return size > 0 && days[0] == day;
        }

        int hoursOn(int day) {
            int sum = 0;
            for (int i = 0; i < size; i++) {
                if (days[i] == day) {
                    sum += hoursFor(kinds[i]);
                }
            }
            return sum;
        }

        boolean hasMirrorOn(int mirror, int day) {
            for (int i = 0; i < size; i++) {
                if (days[i] == day && mirrors[i] == mirror) {
                    return true;
                }
            }
            return false;
        }
    }

    /** The latest cleanings that were looked at, the latest one first. */
    private static final class Logbook {
        private static final int MOST_ENTRIES = 12;

        final int[] mirrors = new int[MOST_ENTRIES];
        final int[] kinds = new int[MOST_ENTRIES];
        final int[] days = new int[MOST_ENTRIES];
        final int[] done = new int[MOST_ENTRIES];
        int size;

        void copyFrom(Logbook other) {
            System.arraycopy(other.mirrors, 0, mirrors, 0, MOST_ENTRIES);
            System.arraycopy(other.kinds, 0, kinds, 0, MOST_ENTRIES);
            System.arraycopy(other.days, 0, days, 0, MOST_ENTRIES);
            System.arraycopy(other.done, 0, done, 0, MOST_ENTRIES);
            size = other.size;
        }

        boolean has(int entry) {
            return entry >= 0 && entry < size;
        }

        void enter(int mirror, int kind, int day, boolean wasDone) {
            for (int i = MOST_ENTRIES - 1; i > 0; i--) {
                mirrors[i] = mirrors[i - 1];
                kinds[i] = kinds[i - 1];
                days[i] = days[i - 1];
                done[i] = done[i - 1];
            }
            mirrors[0] = mirror;
            kinds[0] = kind;
            days[0] = day;
            done[0] = wasDone ? 1 : 0;
            size = Math.min(size + 1, MOST_ENTRIES);
        }
    }

    /** A ring of states; those of the constructor are used again, for room. */
    private static final class History {
        private static final int MOST_STATES = 6;

        final State[] states = new State[MOST_STATES];
        int next;
        int size;
        /** While orders are carried out: all of them are one act, which is recorded before. */
        boolean paused;

        History() {
            for (int i = 0; i < MOST_STATES; i++) {
                states[i] = new State();
            }
        }

        void push(State before) {
            if (paused) {
                return;
            }
            states[next].copyFrom(before);
            next = (next + 1) % MOST_STATES;
            size = Math.min(size + 1, MOST_STATES);
        }

        void takeLatest(State into) {
            if (size == 0) {
                return;
            }
            next = (next + MOST_STATES - 1) % MOST_STATES;
            size--;
            into.copyFrom(states[next]);
        }
    }

    private static final class Snapshots {
        private static final int SLOTS = 2;

        final State[] states = new State[SLOTS];
        final boolean[] taken = new boolean[SLOTS];

        Snapshots() {
            for (int i = 0; i < SLOTS; i++) {
                states[i] = new State();
            }
        }

        boolean has(int slot) {
            return slot >= 0 && slot < SLOTS;
        }

        boolean isEmpty(int slot) {
            return !has(slot) || !taken[slot];
        }

        void store(int slot, State from) {
            if (has(slot)) {
                states[slot].copyFrom(from);
                taken[slot] = true;
            }
        }

        void fetch(int slot, State into) {
            if (!isEmpty(slot)) {
                into.copyFrom(states[slot]);
            }
        }
    }

    /** The text, and the order in it that was read latest. */
    private static final class Orders {
        static final int MOST_SIGNS = 90;
        static final int NO_FAULT = -1;
        static final int SNOW_WORD = 0;
        static final int WASH_WORD = 1;
        static final int COAT_WORD = 2;
        static final int DROP = 3;
        static final int NIGHTS = 4;
        static final int DUST = 5;
        private static final int WORDS = 6;
        private static final int NO_WORD = -1;
        private static final int NO_NUMBER = -1;
        private static final int MOST_DIGITS = 3;

        final char[] signs = new char[MOST_SIGNS];
        final int[] numbers = new int[3];
        int length;
        int word;
        /** Where the next order begins, if goesOn says that there has to be one. */
        int position;
        boolean goesOn;

        int append(char sign) {
            if (length >= MOST_SIGNS) {
                return FULL;
            }
            signs[length] = sign;
            length++;
            return length;
        }

        void goToBegin() {
            position = 0;
            goesOn = true;
        }

        int findFault() {
            goToBegin();
            for (int i = 0; i <= MOST_SIGNS && goesOn; i++) {
                int fault = readOrder();
                if (fault != NO_FAULT) {
                    return fault;
                }
            }
            return NO_FAULT;
        }

        /**
         * Reads the order at the position; what is wrong, too short or missing is a fault where it
         * stands or should stand, which at the end of the text is the length.
         */
        int readOrder() {
            int end = endOfPart(position);
            word = wordBetween(position, end);
            if (word == NO_WORD) {
                return position;
            }
            for (int i = 0; i < numbersBehind(word) && i < numbers.length; i++) {
                if (!hasSignAt(end, ' ')) {
                    return end;
                }
                int start = end + 1;
                end = endOfPart(start);
                int number = numberBetween(start, end);
                if (isOutside(number, lowest(word), highest(word, i))) {
                    return start;
                }
                numbers[i] = number;
            }
            goesOn = hasSignAt(end, ';');
            if (!goesOn && end < length) {
                return end;
            }
            position = end + 1;
            return NO_FAULT;
        }

        private boolean hasSignAt(int index, char sign) {
            return index >= 0 && index < length && index < MOST_SIGNS && signs[index] == sign;
        }

        private int endOfPart(int start) {
            int end = start;
            while (end < length && !hasSignAt(end, ' ') && !hasSignAt(end, ';')) {
                end++;
            }
            return end;
        }

        private int wordBetween(int start, int end) {
            for (int i = 0; i < WORDS; i++) {
                if (isBetween(textOf(i), start, end)) {
                    return i;
                }
            }
            return NO_WORD;
        }

        private boolean isBetween(String text, int start, int end) {
            if (text.length() != end - start) {
                return false;
            }
            for (int i = 0; i < text.length(); i++) {
                if (!hasSignAt(start + i, text.charAt(i))) {
                    return false;
                }
            }
            return true;
        }

        private int numberBetween(int start, int end) {
            if (start < 0 || end > length || isOutside(end - start, 1, MOST_DIGITS)) {
                return NO_NUMBER;
            }
            int number = 0;
            for (int i = start; i < end && i < MOST_SIGNS; i++) {
                if (signs[i] < '0' || signs[i] > '9') {
                    return NO_NUMBER;
                }
                number = number * 10 + (signs[i] - '0');
            }
            return number;
        }

        private static String textOf(int word) {
            switch (word) {
                case SNOW_WORD:
                    return "snow";
                case WASH_WORD:
                    return "wash";
                case COAT_WORD:
                    return "coat";
                case DROP:
                    return "drop";
                case NIGHTS:
                    return "nights";
                default:
                    return "dust";
            }
        }

        private static int numbersBehind(int word) {
            switch (word) {
                case DROP:
                case NIGHTS:
                    return 1;
                case DUST:
                    return 3;
                default:
                    return 2;
            }
        }

        private static int lowest(int word) {
            return word == NIGHTS ? 1 : 0;
        }

        private static int highest(int word, int which) {
            switch (word) {
                case DROP:
                    return 11;
                case NIGHTS:
                    return 60;
                case DUST:
                    return which == 2 ? 500 : 59;
                default:
                    return which == 0 ? 3 : 59;
            }
        }
    }

    /**
     * The nights to come, for one mirror at a time. A cleaning that can be added comes last on its
     * day and finds people and hours, so it is done and changes nothing for the other mirrors: the
     * least loss of all is that with the least loss of its mirror.
     */
    private static final class Forecast {
        final int[] rates = new int[MOST_NIGHTS];
        final int[] factors = new int[MOST_NIGHTS];
        final int[] doneKinds = new int[MOST_NIGHTS];
        final boolean[] open = new boolean[MOST_NIGHTS];
        final Mirror asPlanned = new Mirror();
        final Mirror once = new Mirror();
        final Mirror twice = new Mirror();
        int nights;

        void lookAhead(State state, int howMany) {
            nights = Math.min(howMany, MOST_NIGHTS);
            for (int i = 0; i < nights; i++) {
                rates[i] = state.dustRates.valueOf(state.present + i);
                factors[i] = lightFactor(state.magnitudes.valueOf(state.present + i));
            }
        }

        void takeMirror(State state, int mirror, boolean withPlan) {
            if (!state.hasMirror(mirror)) {
                return;
            }
            asPlanned.copyFrom(state.mirrors[mirror]);
            for (int i = 0; i < nights; i++) {
                doneKinds[i] = withPlan ? state.kindDoneOn(mirror, state.present + i) : NO_KIND;
            }
        }

        void findOpenDays(State state, int mirror, int kind) {
            for (int i = 0; i < nights; i++) {
                open[i] = state.reasonAgainst(mirror, kind, state.present + i) == FINE;
            }
        }

        /** Lets the mirror spend one of the nights ahead, behind a cleaning or NO_KIND. */
        private long lossAt(Mirror mirror, int ahead, int kind) {
            if (isOutside(ahead, 0, nights - 1)) {
                return 0;
            }
            mirror.clean(kind);
            return mirror.spendNight(rates[ahead], factors[ahead]);
        }

        long lossFrom(Mirror mirror, int from) {
            long sum = 0;
            for (int i = Math.max(from, 0); i < nights; i++) {
                sum += lossAt(mirror, i, doneKinds[i]);
            }
            return sum;
        }

        int bestSingle(int kind) {
            int best = NONE;
            long least = 0;
            long before = 0;
            for (int i = 0; i < nights; i++) {
                if (open[i]) {
                    once.copyFrom(asPlanned);
                    long loss = before + lossAt(once, i, kind) + lossFrom(once, i + 1);
                    if (best == NONE || loss < least) {
                        best = i;
                        least = loss;
                    }
                }
                before += lossAt(asPlanned, i, doneKinds[i]);
            }
            return best;
        }

        int bestTwo(int kind) {
            int best = NONE;
            long least = 0;
            long before = 0;
            for (int i = 0; i < nights; i++) {
                if (open[i]) {
                    once.copyFrom(asPlanned);
                    long between = before + lossAt(once, i, kind);
                    for (int j = i + 1; j < nights; j++) {
                        if (open[j]) {
                            twice.copyFrom(once);
                            long loss = between + lossAt(twice, j, kind) + lossFrom(twice, j + 1);
                            if (best == NONE || loss < least) {
                                best = 100 * i + j;
                                least = loss;
                            }
                        }
                        between += lossAt(once, j, doneKinds[j]);
                    }
                }
                before += lossAt(asPlanned, i, doneKinds[i]);
            }
            return best;
        }
    }
}
