import java.util.ArrayList;
import java.util.List;

/**
 * The document once more, in its plainest form and without regard to speed: each search adds the
 * cleaning to a copy of the state and lets the nights pass in it.
 */
final class Reference {
    static final class Mirror {
        int weight, wear, dust, age, cleanings;
        long lost;

        Mirror copy() {
            Mirror m = new Mirror();
            m.weight = weight;
            m.wear = wear;
            m.dust = dust;
            m.age = age;
            m.cleanings = cleanings;
            m.lost = lost;
            return m;
        }

        int loss() {
            return Math.min(10000, dust / 10 + age * wear);
        }
    }

    static final class Person {
        int[] hours = new int[7];
        int from = 0;
        int to = -1;

        int on(int day) {
            return from <= day && day <= to ? 0 : hours[day % 7];
        }

        Person copy() {
            Person p = new Person();
            p.hours = hours.clone();
            p.from = from;
            p.to = to;
            return p;
        }
    }

    static final class State {
        int now, done, missed, worked;
        List<Mirror> mirrors = new ArrayList<>();
        List<Person> people = new ArrayList<>();
        List<int[]> rates = new ArrayList<>();
        List<int[]> magnitudes = new ArrayList<>();
        /** mirror, kind, day */
        List<int[]> plan = new ArrayList<>();
        /** mirror, kind, day, done; the latest one is the last */
        List<int[]> log = new ArrayList<>();

        State copy() {
            State s = new State();
            s.now = now;
            s.done = done;
            s.missed = missed;
            s.worked = worked;
            for (Mirror m : mirrors) {
                s.mirrors.add(m.copy());
            }
            for (Person p : people) {
                s.people.add(p.copy());
            }
            s.rates.addAll(rates);
            s.magnitudes.addAll(magnitudes);
            s.plan.addAll(plan);
            s.log.addAll(log);
            return s;
        }

        int count(int day) {
            int n = 0;
            for (Person p : people) {
                n += p.on(day) > 0 ? 1 : 0;
            }
            return n;
        }

        int hours(int day) {
            int n = 0;
            for (Person p : people) {
                n += p.on(day);
            }
            return n;
        }

        int plannedHours(int day) {
            int n = 0;
            for (int[] c : plan) {
                n += c[2] == day ? HOURS[c[1]] : 0;
            }
            return n;
        }

        int against(int mirror, int kind, int day) {
            if (count(day) < PEOPLE[kind]) {
                return 1;
            }
            if (hours(day) < plannedHours(day) + HOURS[kind]) {
                return 2;
            }
            for (int[] c : plan) {
                if (c[0] == mirror && c[2] == day) {
                    return 3;
                }
            }
            return plan.size() == 12 ? 4 : 0;
        }

        int add(int mirror, int kind, int day) {
            int place = 0;
            for (int[] c : plan) {
                place += c[2] <= day ? 1 : 0;
            }
            plan.add(place, new int[] {mirror, kind, day});
            return place;
        }

        static int told(List<int[]> periods, int night, int usual) {
            int value = usual;
            for (int[] p : periods) {
                value = p[0] <= night && night <= p[1] ? p[2] : value;
            }
            return value;
        }

        long passOne() {
            int left = hours(now);
            List<int[]> rest = new ArrayList<>();
            for (int[] c : plan) {
                if (c[2] != now) {
                    rest.add(c);
                    continue;
                }
                boolean able = count(now) >= PEOPLE[c[1]] && left >= HOURS[c[1]];
                if (able) {
                    Mirror m = mirrors.get(c[0]);
                    left -= HOURS[c[1]];
                    worked += HOURS[c[1]];
                    done++;
                    m.cleanings++;
                    m.dust = c[1] == 0 ? m.dust / 2 : c[1] == 1 ? m.dust / 20 : 0;
                    m.age = c[1] == 2 ? 0 : m.age;
                } else {
                    missed++;
                }
                log.add(new int[] {c[0], c[1], c[2], able ? 1 : 0});
            }
            plan = rest;
            while (log.size() > 12) {
                log.remove(0);
            }
            long magnitude = told(magnitudes, now, 15);
            long sum = 0;
            for (Mirror m : mirrors) {
                m.dust = Math.min(100000, m.dust + told(rates, now, 20));
                m.age++;
                long lost = m.weight * (long) m.loss() * (100 + magnitude * magnitude) / 1000;
                m.lost += lost;
                sum += lost;
            }
            now++;
            return sum;
        }

        long ahead(int nights) {
            State s = copy();
            long sum = 0;
            for (int i = 0; i < nights; i++) {
                sum += s.passOne();
            }
            return sum;
        }
    }

    static final int[] HOURS = {1, 4, 12};
    static final int[] PEOPLE = {1, 2, 3};

    State s = new State();
    List<State> history = new ArrayList<>();
    State[] slots = new State[2];
    String text = "";
    int reason = 0;
    int failedOrder = Check.NONE;
    int failedCause = Check.NONE;
    boolean quiet = false;

    private void act() {
        if (quiet) {
            return;
        }
        history.add(s.copy());
        if (history.size() > 6) {
            history.remove(0);
        }
    }

    private static boolean in(int x, int low, int high) {
        return low <= x && x <= high;
    }

    private boolean mirrorThere(int m) {
        return in(m, 0, s.mirrors.size() - 1);
    }

    private boolean personThere(int p) {
        return in(p, 0, s.people.size() - 1);
    }

    int addMirror(int weight, int wear) {
        if (!in(weight, 0, 100) || !in(wear, 0, 20)) {
            return Check.BAD_VALUE;
        }
        if (s.mirrors.size() == 4) {
            return Check.FULL;
        }
        act();
        Mirror m = new Mirror();
        m.weight = weight;
        m.wear = wear;
        s.mirrors.add(m);
        return s.mirrors.size() - 1;
    }

    private int period(boolean dust, int from, int to, int value) {
        if (!in(from, 0, 9999) || !in(to, from, 9999) || !in(value, 0, dust ? 500 : 30)) {
            return Check.BAD_VALUE;
        }
        if ((dust ? s.rates : s.magnitudes).size() == 10) {
            reason = 5;
            return Check.REFUSED;
        }
        act();
        List<int[]> periods = dust ? s.rates : s.magnitudes;
        periods.add(new int[] {from, to, value});
        return periods.size();
    }

    int setDust(int from, int to, int rate) {
        return period(true, from, to, rate);
    }

    int setMagnitude(int from, int to, int magnitude) {
        return period(false, from, to, magnitude);
    }

    int clearPeriods() {
        int n = s.rates.size() + s.magnitudes.size();
        if (n == 0) {
            return Check.NONE;
        }
        act();
        s.rates.clear();
        s.magnitudes.clear();
        return n;
    }

    int addPerson() {
        if (s.people.size() == 5) {
            return Check.FULL;
        }
        act();
        s.people.add(new Person());
        return s.people.size() - 1;
    }

    int setHours(int person, int weekday, int hours) {
        if (!personThere(person)) {
            return Check.UNKNOWN;
        }
        if (!in(weekday, 0, 6) || !in(hours, 0, 12)) {
            return Check.BAD_VALUE;
        }
        act();
        int before = s.people.get(person).hours[weekday];
        s.people.get(person).hours[weekday] = hours;
        return before;
    }

    int setOff(int person, int from, int to) {
        if (!personThere(person)) {
            return Check.UNKNOWN;
        }
        if (!in(from, 0, 9999) || !in(to, from, 9999)) {
            return Check.BAD_VALUE;
        }
        act();
        s.people.get(person).from = from;
        s.people.get(person).to = to;
        return to - from + 1;
    }

    int addCleaning(int mirror, int kind, int ahead) {
        if (!mirrorThere(mirror)) {
            return Check.UNKNOWN;
        }
        if (!in(kind, 0, 2) || !in(ahead, 0, 59)) {
            return Check.BAD_VALUE;
        }
        int against = s.against(mirror, kind, s.now + ahead);
        if (against != 0) {
            reason = against;
            return Check.REFUSED;
        }
        act();
        return s.add(mirror, kind, s.now + ahead);
    }

    int dropCleaning(int place) {
        if (!in(place, 0, s.plan.size() - 1)) {
            return Check.UNKNOWN;
        }
        act();
        s.plan.remove(place);
        return s.plan.size();
    }

    int bestDay(int mirror, int kind, int nights) {
        if (!mirrorThere(mirror)) {
            return Check.UNKNOWN;
        }
        if (!in(kind, 0, 2) || !in(nights, 1, 60)) {
            return Check.BAD_VALUE;
        }
        int best = Check.NONE;
        long least = Long.MAX_VALUE;
        for (int i = 0; i < nights; i++) {
            if (s.against(mirror, kind, s.now + i) == 0) {
                State t = s.copy();
                t.add(mirror, kind, s.now + i);
                long loss = t.ahead(nights);
                if (loss < least) {
                    least = loss;
                    best = i;
                }
            }
        }
        return best;
    }

    int bestPair(int mirror, int kind, int nights) {
        if (!mirrorThere(mirror)) {
            return Check.UNKNOWN;
        }
        if (!in(kind, 0, 2) || !in(nights, 1, 60)) {
            return Check.BAD_VALUE;
        }
        int best = Check.NONE;
        long least = Long.MAX_VALUE;
        for (int i = 0; i < nights; i++) {
            if (s.against(mirror, kind, s.now + i) != 0) {
                continue;
            }
            State t = s.copy();
            t.add(mirror, kind, s.now + i);
            for (int j = i + 1; j < nights; j++) {
                if (t.against(mirror, kind, s.now + j) == 0) {
                    State u = t.copy();
                    u.add(mirror, kind, s.now + j);
                    long loss = u.ahead(nights);
                    if (loss < least) {
                        least = loss;
                        best = 100 * i + j;
                    }
                }
            }
        }
        return best;
    }

    long pass(int nights) {
        if (!in(nights, 1, 60)) {
            return Check.BAD_VALUE;
        }
        act();
        long sum = 0;
        for (int i = 0; i < nights; i++) {
            sum += s.passOne();
        }
        return sum;
    }

    int type(char c) {
        if (text.length() == 90) {
            return Check.FULL;
        }
        text += c;
        return text.length();
    }

    int clearText() {
        int n = text.length();
        text = "";
        return n;
    }

    /** The ranges of the numbers behind a word as pairs, null for no such word. */
    private static int[] ranges(String word) {
        switch (word) {
            case "snow": case "wash": case "coat":
                return new int[] {0, 3, 0, 59};
            case "drop":
                return new int[] {0, 11};
            case "nights":
                return new int[] {1, 60};
            case "dust":
                return new int[] {0, 59, 0, 59, 0, 500};
            default:
                return null;
        }
    }

    /** Cuts the text into words, numbers and separators, and looks at them one behind the other. */
    private int fault() {
        List<String> parts = new ArrayList<>();
        List<Integer> starts = new ArrayList<>();
        StringBuilder part = new StringBuilder();
        int start = 0;
        for (int i = 0; i <= text.length(); i++) {
            char c = i < text.length() ? text.charAt(i) : 0;
            if (i == text.length() || c == ' ' || c == ';') {
                parts.add(part.toString());
                starts.add(start);
                parts.add(i == text.length() ? "" : "" + c);
                starts.add(i);
                part.setLength(0);
                start = i + 1;
            } else {
                part.append(c);
            }
        }
        int at = 0;
        while (true) {
            int[] ranges = ranges(parts.get(at));
            if (ranges == null) {
                return starts.get(at);
            }
            for (int k = 0; k < ranges.length; k += 2) {
                if (!parts.get(at + 1).equals(" ")) {
                    return starts.get(at + 1);
                }
                at += 2;
                String number = parts.get(at);
                if (!number.matches("[0-9]{1,3}")
                        || !in(Integer.parseInt(number), ranges[k], ranges[k + 1])) {
                    return starts.get(at);
                }
            }
            String behind = parts.get(at + 1);
            if (behind.equals("")) {
                return -1;
            }
            if (behind.equals(" ")) {
                return starts.get(at + 1);
            }
            at += 2;
        }
    }

    int runOrders() {
        int fault = fault();
        if (fault >= 0) {
            return -100 - fault;
        }
        act();
        quiet = true;
        failedOrder = Check.NONE;
        failedCause = Check.NONE;
        int done = 0;
        for (String order : text.split(";")) {
            String[] p = order.split(" ");
            int a = Integer.parseInt(p[1]);
            int b = p.length > 2 ? Integer.parseInt(p[2]) : 0;
            long answer;
            switch (p[0]) {
                case "drop":
                    answer = dropCleaning(a);
                    break;
                case "nights":
                    answer = pass(a);
                    break;
                case "dust":
                    answer = setDust(s.now + a, s.now + b, Integer.parseInt(p[3]));
                    break;
                default:
                    answer = addCleaning(a, p[0].equals("snow") ? 0 : p[0].equals("wash") ? 1 : 2, b);
            }
            if (answer <= -1000001 && answer >= -1000004) {
                failedOrder = done;
                failedCause = answer == Check.UNKNOWN ? 11 : answer == Check.BAD_VALUE ? 12 : reason;
                break;
            }
            done++;
        }
        quiet = false;
        return done;
    }

    int failure(int what) {
        return what == 0 ? failedOrder : what == 1 ? failedCause : Check.BAD_VALUE;
    }

    int undo() {
        if (history.isEmpty()) {
            return Check.NONE;
        }
        s = history.remove(history.size() - 1);
        return history.size();
    }

    int keep(int slot) {
        if (!in(slot, 0, 1)) {
            return Check.UNKNOWN;
        }
        slots[slot] = s.copy();
        return s.now;
    }

    int restore(int slot) {
        if (!in(slot, 0, 1)) {
            return Check.UNKNOWN;
        }
        if (slots[slot] == null) {
            return Check.NONE;
        }
        act();
        s = slots[slot].copy();
        return s.now;
    }

    int mirror(int mirror, int what) {
        if (!mirrorThere(mirror)) {
            return Check.UNKNOWN;
        }
        Mirror m = s.mirrors.get(mirror);
        int[] all = {m.weight, m.wear, m.dust, m.age, m.cleanings, m.loss()};
        return in(what, 0, 5) ? all[what] : Check.BAD_VALUE;
    }

    long lost(int mirror) {
        return mirrorThere(mirror) ? s.mirrors.get(mirror).lost : Check.UNKNOWN;
    }

    long lossAhead(int nights, int what) {
        if (!in(nights, 1, 60) || !in(what, 0, 1)) {
            return Check.BAD_VALUE;
        }
        State t = s.copy();
        if (what == 1) {
            t.plan.clear();
        }
        return t.ahead(nights);
    }

    int night(int night, int what) {
        if (!in(night, 0, 9999) || !in(what, 0, 1)) {
            return Check.BAD_VALUE;
        }
        return what == 0 ? State.told(s.rates, night, 20) : State.told(s.magnitudes, night, 15);
    }

    int day(int day, int what) {
        if (!in(day, 0, 9999) || !in(what, 0, 2)) {
            return Check.BAD_VALUE;
        }
        return what == 0 ? s.count(day) : s.hours(day) - (what == 2 ? s.plannedHours(day) : 0);
    }

    int hours(int person, int weekday) {
        if (!personThere(person)) {
            return Check.UNKNOWN;
        }
        return in(weekday, 0, 6) ? s.people.get(person).hours[weekday] : Check.BAD_VALUE;
    }

    int planned(int place, int what) {
        if (place < 0 || !in(what, 0, 2)) {
            return Check.BAD_VALUE;
        }
        return place < s.plan.size() ? s.plan.get(place)[what] : Check.NONE;
    }

    int log(int entry, int what) {
        if (entry < 0 || !in(what, 0, 3)) {
            return Check.BAD_VALUE;
        }
        return entry < s.log.size() ? s.log.get(s.log.size() - 1 - entry)[what] : Check.NONE;
    }

    int count(int what) {
        int[] all = {s.now, s.mirrors.size(), s.people.size(), s.plan.size(), s.log.size(), reason,
            history.size(), s.done, s.missed, s.worked};
        return in(what, 0, 9) ? all[what] : Check.BAD_VALUE;
    }
}
