// The letting diary of a parish with three halls. What each call promises
// stands in the project's document under the name of the call.
public final class HallDiary {
    public static final int NONE = -1;

    private static final int HALLS = 3;
    private static final int HOURS = 24;
    private static final int WEEKDAYS = 7;
    private static final int WEEKS = 12;
    private static final int DAYS = 84;
    private static final int RANKS = 9;
    private static final int TENANTS = 20;
    private static final int ANY_TENANT = -1;
    private static final int MOST_REGULAR = 8;
    private static final int MOST_SINGLE = 12;
    private static final int MOST_SAVED = 6;
    private static final int LOWEST_RATE = 100;
    private static final int HIGHEST_RATE = 5000;

    private static final int CLEANING = 0;
    private static final int DISCOUNT = 1;
    private static final int SURCHARGE = 2;
    private static final int FIRST_WEEK = 3;
    private static final int LAST_WEEK = 4;
    private static final int SETTINGS = 5;
    private static final int[] HIGHEST_SETTING = {4, 50, 100, 11, 11};

    // What is added up over lets.
    private static final int LETS = 0;
    private static final int LET_DAYS = 1;
    private static final int RENTS = 2;
    private static final int LET_HOURS = 3;

    private static final int MADE = 0;
    private static final int TOO_MANY = 1;
    private static final int CLASH = 2;
    private static final int NOT_CLEANED = 3;

    private final State now = new State();
    private final State snapshot = new State();
    private boolean hasSnapshot;
    private final State[] saved = new State[MOST_SAVED];
    private int savedSize;
    private final LetText text = new LetText();

    // Rows for the work of one call: nothing in them lasts from call to call.
    private final DayPlan plan = new DayPlan();
    private final Let draft = new Let();

    public HallDiary() {
        for (int i = 0; i < MOST_SAVED; i++) {
            saved[i] = new State();
        }
    }

    // ---- lets

    public int regular(int hall, int weekday, int from, int to, int rank, int tenant)
            throws IndexOutOfBoundsException, IllegalArgumentException, IllegalStateException {
        needHall(hall);
        need(isIn(weekday, 0, WEEKDAYS - 1));
        needHours(from, to);
        need(isIn(rank, 1, RANKS));
        need(isIn(tenant, 0, TENANTS - 1));
        if (now.regulars.isFull()) {
            throw new IllegalStateException("there are as many regular lets as may be");
        }
        draftRegular(hall, weekday, from, to, rank, tenant);
        if (draft.weeks == 0) {
            throw new IllegalStateException("the let would be off on all its days");
        }
        saveState();
        makeRegular();
        return draft.daysStanding();
    }

    public int single(int hall, int day, int from, int to, int rank, int tenant)
            throws IndexOutOfBoundsException, IllegalArgumentException, IllegalStateException {
        needHall(hall);
        needDay(day);
        needHours(from, to);
        need(isIn(rank, 1, RANKS));
        need(isIn(tenant, 0, TENANTS - 1));
        draftSingle(hall, day, from, to, rank, tenant);
        if (reasonAgainstDraft(day) != MADE) {
            throw new IllegalStateException("the let is refused");
        }
        saveState();
        return makeSingle(day);
    }

    public int cancel(boolean isRegular, int number) throws IndexOutOfBoundsException {
        Roll roll = isRegular ? now.regulars : now.singles;
        needLet(roll, number);
        saveState();
        int back = roll.rows[number].rentsInAll();
        now.givenBack += back;
        roll.remove(number);
        return back;
    }

    public int off(int number, int day)
            throws IndexOutOfBoundsException, IllegalArgumentException, IllegalStateException {
        needLet(now.regulars, number);
        needDay(day);
        Let let = now.regulars.rows[number];
        if (!let.standsOn(day)) {
            throw new IllegalStateException("the let does not stand on this day");
        }
        saveState();
        let.leaveOut(day);
        now.givenBack += let.rent;
        return let.rent;
    }

    public int rate(int hall, int rate) throws IndexOutOfBoundsException, IllegalArgumentException {
        needHall(hall);
        need(isIn(rate, LOWEST_RATE, HIGHEST_RATE));
        saveState();
        int previous = now.rates[hall];
        now.rates[hall] = rate;
        return previous;
    }

    public int set(int setting, int value)
            throws IndexOutOfBoundsException, IllegalArgumentException, IllegalStateException {
        if (!isIn(setting, 0, SETTINGS - 1)) {
            throw new IndexOutOfBoundsException("no such setting");
        }
        need(isIn(value, 0, HIGHEST_SETTING[setting]));
        if (!allowsSetting(setting, value)) {
            throw new IllegalStateException("the diary does not allow this value");
        }
        saveState();
        int previous = now.settings[setting];
        now.settings[setting] = value;
        return previous;
    }

    // ---- texts

    public int append(int code) throws IllegalArgumentException, IllegalStateException {
        need(isIn(code, 33, 126));
        if (text.isFull()) {
            throw new IllegalStateException("the buffer is full");
        }
        text.push(code);
        return text.length;
    }

    public int clearBuffer() {
        int length = text.length;
        text.length = 0;
        return length;
    }

    public int firstError() {
        return text.firstBadIndex();
    }

    public int lets() throws IllegalArgumentException {
        need(text.isComplete());
        saveState();
        int made = 0;
        text.startReading();
        for (int i = 0; i < text.length; i++) {
            text.accepts(text.codes[i]);
            if (text.endsPart(i) && makesPart(text.numbers)) {
                made++;
            }
        }
        text.length = 0;
        return made;
    }

    // ---- undo, the snapshot

    public int undo() throws IllegalStateException {
        if (savedSize < 1) {
            throw new IllegalStateException("no state is saved");
        }
        savedSize--;
        now.become(saved[savedSize]);
        return savedSize;
    }

    public int keep() {
        snapshot.become(now);
        hasSnapshot = true;
        return now.regulars.size + now.singles.size;
    }

    public int restore() throws IllegalStateException {
        if (!hasSnapshot) {
            throw new IllegalStateException("there is no snapshot");
        }
        saveState();
        now.become(snapshot);
        return now.regulars.size + now.singles.size;
    }

    // ---- looks; nothing is changed

    public int regularOf(int number, int what) throws IndexOutOfBoundsException, IllegalArgumentException {
        needLet(now.regulars, number);
        need(isIn(what, 0, 10));
        Let let = now.regulars.rows[number];
        switch (what) {
            case 1:
                return let.weekday;
            case 7:
                return let.firstWeek;
            case 8:
                return let.lastWeek;
            case 9:
                return let.daysStanding();
            case 10:
                return let.firstDay();
            default:
                return commonNumber(let, what);
        }
    }

    public int singleOf(int number, int what) throws IndexOutOfBoundsException, IllegalArgumentException {
        needLet(now.singles, number);
        need(isIn(what, 0, 6));
        Let let = now.singles.rows[number];
        return what == 1 ? let.firstDay() : commonNumber(let, what);
    }

    public int who(int hall, int day, int hour) throws IndexOutOfBoundsException, IllegalArgumentException {
        needHall(hall);
        needDay(day);
        need(isIn(hour, 0, HOURS - 1));
        plan.open(now, day);
        return plan.tenantAt(hall, hour);
    }

    public int hallOf(int hall, int day, int what) throws IndexOutOfBoundsException, IllegalArgumentException {
        needHall(hall);
        needDay(day);
        need(isIn(what, 0, 3));
        plan.open(now, day);
        switch (what) {
            case 0:
                return plan.sumIn(hall, LETS);
            case 1:
                return HOURS - plan.sumIn(hall, LET_HOURS);
            case 2:
                return plan.hoursWithoutTenant(hall);
            default:
                return plan.sumIn(hall, RENTS);
        }
    }

    public int tenant(int tenant, int what) throws IndexOutOfBoundsException, IllegalArgumentException {
        if (!isIn(tenant, 0, TENANTS - 1)) {
            throw new IndexOutOfBoundsException("no such tenant");
        }
        need(isIn(what, 0, 2));
        switch (what) {
            case 0:
                return now.sumFor(tenant, LETS);
            case 1:
                return now.sumFor(tenant, LET_DAYS);
            default:
                return now.sumFor(tenant, RENTS);
        }
    }

    public int count(int what) throws IllegalArgumentException {
        need(isIn(what, 0, 12));
        switch (what) {
            case 0:
                return now.regulars.size;
            case 1:
                return now.singles.size;
            case 2:
                return now.sumFor(ANY_TENANT, LET_DAYS);
            case 3:
                return now.sumFor(ANY_TENANT, RENTS);
            case 4:
                return now.paid;
            case 5:
                return now.givenBack;
            case 6:
                return now.gaveWay;
            case 12:
                return savedSize;
            default:
                return now.settings[what - 7];
        }
    }

    // ---- what would be; nothing is changed

    public int refusal(int hall, int day, int from, int to, int rank)
            throws IndexOutOfBoundsException, IllegalArgumentException {
        needHall(hall);
        needDay(day);
        needHours(from, to);
        need(isIn(rank, 1, RANKS));
        draftSingle(hall, day, from, to, rank, 0);
        return reasonAgainstDraft(day);
    }

    public int price(int hall, int day, int from, int to)
            throws IndexOutOfBoundsException, IllegalArgumentException {
        needHall(hall);
        needDay(day);
        needHours(from, to);
        return rentForDay(hall, day % WEEKDAYS, to - from, 0);
    }

    public int nextFree(int hall, int day, int hours) throws IndexOutOfBoundsException, IllegalArgumentException {
        needHall(hall);
        needDay(day);
        need(isIn(hours, 1, HOURS));
        if (now.singles.isFull()) {
            return NONE;
        }
        draft.rank = 1;
        for (int later = day; later < DAYS; later++) {
            int hour = firstFreeHour(hall, later, hours);
            if (hour != NONE) {
                return HOURS * later + hour;
            }
        }
        return NONE;
    }

    public int best() {
        int best = NONE;
        int most = 0;
        for (int tenant = 0; tenant < TENANTS; tenant++) {
            int rents = now.sumFor(tenant, RENTS);
            if (rents > most) {
                most = rents;
                best = tenant;
            }
        }
        return best;
    }

    public double fullness(int hall) throws IndexOutOfBoundsException {
        needHall(hall);
        return (double) (now.regulars.hoursIn(hall) + now.singles.hoursIn(hall)) / 2016.0;
    }

    public float meanRent() {
        return (float) now.sumFor(ANY_TENANT, RENTS) / 84.0f;
    }

    public long digest() {
        long hash = 3709;
        for (int what = 0; what <= 12; what++) {
            hash = 31 * hash + count(what);
        }
        hash = digestLets(hash);
        for (int tenant = 0; tenant < TENANTS; tenant++) {
            for (int what = 0; what <= 2; what++) {
                hash = 31 * hash + tenant(tenant, what);
            }
        }
        for (int hall = 0; hall < HALLS; hall++) {
            hash = digestHall(hash, hall);
        }
        hash = 31 * hash + best();
        hash = 31 * hash + bitsOf((double) meanRent(), 127, 23);
        hash = 31 * hash + text.length;
        for (int i = 0; i < text.length; i++) {
            hash = 31 * hash + text.codes[i];
        }
        return hash;
    }

    private long digestLets(long hash) {
        long sum = hash;
        for (int number = 0; number < now.regulars.size; number++) {
            for (int what = 0; what <= 10; what++) {
                sum = 31 * sum + regularOf(number, what);
            }
        }
        for (int number = 0; number < now.singles.size; number++) {
            for (int what = 0; what <= 6; what++) {
                sum = 31 * sum + singleOf(number, what);
            }
        }
        return sum;
    }

    private long digestHall(long hash, int hall) {
        long sum = 31 * hash + now.rates[hall];
        for (int day = 0; day <= 6; day++) {
            for (int what = 0; what <= 3; what++) {
                sum = 31 * sum + hallOf(hall, day, what);
            }
        }
        sum = 31 * sum + nextFree(hall, 0, 3);
        sum = 31 * sum + refusal(hall, 5, 18, 20, 5);
        sum = 31 * sum + price(hall, 5, 18, 20);
        return 31 * sum + bitsOf(fullness(hall), 1023, 52);
    }

    // The bits by which IEEE 754 holds a number that is not negative, 0 or a
    // normal one: with 1023 and 52 those of a double, with 127 and 23 of a float.
    private static long bitsOf(double number, int bias, int places) {
        if (number <= 0.0) {
            return 0L;
        }
        double part = number;
        long exponent = bias;
        for (int i = 0; i < bias && part < 1.0; i++) {
            part = part * 2.0;
            exponent--;
        }
        for (int i = 0; i < bias && part >= 2.0; i++) {
            part = part / 2.0;
            exponent++;
        }
        return (exponent << places) + (long) ((part - 1.0) * (double) (1L << places));
    }

    // ---- the arguments

    private static boolean isIn(int value, int lowest, int highest) {
        return value >= lowest && value <= highest;
    }

    private static void need(boolean isRight) throws IllegalArgumentException {
        if (!isRight) {
            throw new IllegalArgumentException("an argument or the text is not as it must be");
        }
    }

    private static void needHall(int hall) throws IndexOutOfBoundsException {
        if (!isIn(hall, 0, HALLS - 1)) {
            throw new IndexOutOfBoundsException("no such hall");
        }
    }

    private static void needLet(Roll roll, int number) throws IndexOutOfBoundsException {
        if (!isIn(number, 0, roll.size - 1)) {
            throw new IndexOutOfBoundsException("no such let");
        }
    }

    private static void needDay(int day) throws IllegalArgumentException {
        need(isIn(day, 0, DAYS - 1));
    }

    private static void needHours(int from, int to) throws IllegalArgumentException {
        need(isIn(from, 0, HOURS - 1));
        need(isIn(to, from + 1, HOURS));
    }

    // ---- making lets

    private void draftSingle(int hall, int day, int from, int to, int rank, int tenant) {
        int week = day / WEEKDAYS;
        draft.place(hall, day % WEEKDAYS, from, to);
        draft.rank = rank;
        draft.tenant = tenant;
        draft.rent = rentForDay(hall, day % WEEKDAYS, to - from, 0);
        draft.firstWeek = week;
        draft.lastWeek = week;
        draft.weeks = 1 << week;
    }

    private void draftRegular(int hall, int weekday, int from, int to, int rank, int tenant) {
        draft.place(hall, weekday, from, to);
        draft.rank = rank;
        draft.tenant = tenant;
        draft.rent = rentForDay(hall, weekday, to - from, now.settings[DISCOUNT]);
        draft.firstWeek = now.settings[FIRST_WEEK];
        draft.lastWeek = now.settings[LAST_WEEK];
        draft.weeks = 0;
        for (int week = draft.firstWeek; week <= draft.lastWeek; week++) {
            plan.open(now, WEEKDAYS * week + weekday);
            if (plan.reasonAgainst(draft, now.settings[CLEANING]) == MADE) {
                draft.weeks |= 1 << week;
            }
        }
    }

    private int rentForDay(int hall, int weekday, int hours, int discount) {
        int rent = hours * now.rates[hall] * (100 - discount) / 100;
        return weekday >= 5 ? rent * (100 + now.settings[SURCHARGE]) / 100 : rent;
    }

    private int reasonAgainstDraft(int day) {
        if (now.singles.isFull()) {
            return TOO_MANY;
        }
        plan.open(now, day);
        return plan.reasonAgainst(draft, now.settings[CLEANING]);
    }

    private int firstFreeHour(int hall, int day, int hours) {
        plan.open(now, day);
        for (int from = 0; from + hours <= HOURS; from++) {
            draft.place(hall, day % WEEKDAYS, from, from + hours);
            if (plan.reasonAgainst(draft, now.settings[CLEANING]) == MADE) {
                return from;
            }
        }
        return NONE;
    }

    private int makeSingle(int day) {
        int gone = now.giveWayTo(draft, day);
        now.singles.add(draft);
        now.paid += draft.rent;
        return gone;
    }

    // A let gives way on its own day alone, so the days that were found while
    // the let was drafted stay as they are while it is made.
    private void makeRegular() {
        for (int week = draft.firstWeek; week <= draft.lastWeek; week++) {
            int day = WEEKDAYS * week + draft.weekday;
            if (draft.standsOn(day)) {
                now.giveWayTo(draft, day);
            }
        }
        now.regulars.add(draft);
        now.paid += draft.rentsInAll();
    }

    private boolean makesPart(int[] part) {
        int day = part[1];
        if (part[3] <= part[2]) {
            return false;
        }
        draftSingle(part[0], day, part[2], part[3], part[4], part[5]);
        if (reasonAgainstDraft(day) != MADE) {
            return false;
        }
        makeSingle(day);
        return true;
    }

    private boolean allowsSetting(int setting, int value) {
        switch (setting) {
            case CLEANING:
                return allDaysCanBeCleaned(value);
            case FIRST_WEEK:
                return value <= now.settings[LAST_WEEK];
            case LAST_WEEK:
                return value >= now.settings[FIRST_WEEK];
            default:
                return true;
        }
    }

    // Two lets that would clash are found here too: no cleaning is over sooner
    // than its hours behind the let, which is when the clash ends.
    private boolean allDaysCanBeCleaned(int cleaning) {
        for (int day = 0; day < DAYS; day++) {
            plan.open(now, day);
            if (!plan.canBeCleaned(cleaning)) {
                return false;
            }
        }
        return true;
    }

    private static int commonNumber(Let let, int what) {
        switch (what) {
            case 0:
                return let.hall;
            case 2:
                return let.from;
            case 3:
                return let.to;
            case 4:
                return let.rank;
            case 5:
                return let.tenant;
            default:
                return let.rent;
        }
    }

    private void saveState() {
        if (savedSize >= MOST_SAVED) {
            State oldest = saved[0];
            for (int i = 1; i < MOST_SAVED; i++) {
                saved[i - 1] = saved[i];
            }
            saved[MOST_SAVED - 1] = oldest;
            savedSize = MOST_SAVED - 1;
        }
        saved[savedSize].become(now);
        savedSize++;
    }

    // A let of either kind: a single one stands in one week.
    private static final class Let {
        int hall;
        int weekday;
        int from;
        int to;
        int rank;
        int tenant;
        int rent;
        int firstWeek;
        int lastWeek;
        // The bit of a week is set if the let stands in this week.
        int weeks;

        void place(int newHall, int newWeekday, int newFrom, int newTo) {
            hall = newHall;
            weekday = newWeekday;
            from = newFrom;
            to = newTo;
        }

        void become(Let other) {
            place(other.hall, other.weekday, other.from, other.to);
            rank = other.rank;
            tenant = other.tenant;
            rent = other.rent;
            firstWeek = other.firstWeek;
            lastWeek = other.lastWeek;
            weeks = other.weeks;
        }

        boolean standsOn(int day) {
            return day % WEEKDAYS == weekday && (weeks >> (day / WEEKDAYS) & 1) == 1;
        }

        void leaveOut(int day) {
            weeks &= ~(1 << (day / WEEKDAYS));
        }

        int daysStanding() {
            return Integer.bitCount(weeks);
        }

        int rentsInAll() {
            return rent * daysStanding();
        }

        // What a day on which the let stands adds to a sum.
        int shareOfDay(int what) {
            switch (what) {
                case RENTS:
                    return rent;
                case LET_HOURS:
                    return to - from;
                default:
                    return 1;
            }
        }

        int firstDay() {
            for (int week = 0; week < WEEKS; week++) {
                if ((weeks >> week & 1) == 1) {
                    return WEEKDAYS * week + weekday;
                }
            }
            return NONE;
        }

        boolean clashesWith(Let other, int cleaning) {
            return hall == other.hall && from < other.to + cleaning && other.from < to + cleaning;
        }

        boolean isCleanedBefore(Let other) {
            return to < other.to || to == other.to && hall < other.hall;
        }
    }

    // The lets of one kind by their numbers. The rows behind the last let are
    // kept, to be used again.
    private static final class Roll {
        final Let[] rows;
        int size;

        Roll(int most) {
            rows = new Let[most > 0 ? most : 0];
            for (int i = 0; i < rows.length; i++) {
                rows[i] = new Let();
            }
        }

        boolean isFull() {
            return size >= rows.length;
        }

        void add(Let let) {
            if (!isFull()) {
                rows[size].become(let);
                size++;
            }
        }

        void remove(int number) {
            if (!isIn(number, 0, size - 1)) {
                return;
            }
            Let gone = rows[number];
            for (int i = number + 1; i < size; i++) {
                rows[i - 1] = rows[i];
            }
            rows[size - 1] = gone;
            size--;
        }

        void become(Roll other) {
            int most = Math.min(rows.length, other.size);
            for (int i = 0; i < most; i++) {
                rows[i].become(other.rows[i]);
            }
            size = most;
        }

        int sumFor(int tenant, int what) {
            int sum = 0;
            for (int i = 0; i < size; i++) {
                if (tenant == ANY_TENANT || rows[i].tenant == tenant) {
                    int days = what == LETS ? 1 : rows[i].daysStanding();
                    sum += rows[i].shareOfDay(what) * days;
                }
            }
            return sum;
        }

        int hoursIn(int hall) {
            int sum = 0;
            for (int i = 0; i < size; i++) {
                if (rows[i].hall == hall) {
                    sum += rows[i].shareOfDay(LET_HOURS) * rows[i].daysStanding();
                }
            }
            return sum;
        }
    }

    // All that undo and the snapshot bring back.
    private static final class State {
        final Roll regulars = new Roll(MOST_REGULAR);
        final Roll singles = new Roll(MOST_SINGLE);
        final int[] rates = {1000, 1500, 2500};
        final int[] settings = {1, 20, 50, 0, 11};
        int paid;
        int givenBack;
        int gaveWay;

        void become(State other) {
            regulars.become(other.regulars);
            singles.become(other.singles);
            System.arraycopy(other.rates, 0, rates, 0, HALLS);
            System.arraycopy(other.settings, 0, settings, 0, SETTINGS);
            paid = other.paid;
            givenBack = other.givenBack;
            gaveWay = other.gaveWay;
        }

        int sumFor(int tenant, int what) {
            return regulars.sumFor(tenant, what) + singles.sumFor(tenant, what);
        }

        int giveWayTo(Let wanted, int day) {
            int before = gaveWay;
            for (int i = 0; i < regulars.size; i++) {
                Let let = regulars.rows[i];
                if (givesWay(let, wanted, day)) {
                    letGo(let);
                    let.leaveOut(day);
                }
            }
            // From the last to the first, as those behind one that goes move up.
            for (int i = singles.size - 1; i >= 0; i--) {
                Let let = singles.rows[i];
                if (givesWay(let, wanted, day)) {
                    letGo(let);
                    singles.remove(i);
                }
            }
            return gaveWay - before;
        }

        private boolean givesWay(Let let, Let wanted, int day) {
            return let.standsOn(day) && let.clashesWith(wanted, settings[CLEANING]);
        }

        private void letGo(Let let) {
            givenBack += let.rent;
            gaveWay++;
        }
    }

    // The lets that stand on one day, in the order in which they are cleaned.
    private static final class DayPlan {
        final Let[] lets = new Let[MOST_REGULAR + MOST_SINGLE];
        int size;
        // From which hour on each hall is clean behind the lets served so far.
        final int[] cleanFrom = new int[HALLS];
        int cleanerFreeFrom;

        void open(State state, int day) {
            size = 0;
            enterAll(state.regulars, day);
            enterAll(state.singles, day);
        }

        private void enterAll(Roll roll, int day) {
            for (int i = 0; i < roll.size && size < lets.length; i++) {
                Let let = roll.rows[i];
                if (!let.standsOn(day)) {
                    continue;
                }
                int at = size;
                for (; at > 0 && let.isCleanedBefore(lets[at - 1]); at--) {
                    lets[at] = lets[at - 1];
                }
                lets[at] = let;
                size++;
            }
        }

        int reasonAgainst(Let wanted, int cleaning) {
            for (int i = 0; i < size; i++) {
                if (lets[i].rank >= wanted.rank && lets[i].clashesWith(wanted, cleaning)) {
                    return CLASH;
                }
            }
            return canBeCleanedWith(wanted, cleaning) ? MADE : NOT_CLEANED;
        }

        private boolean canBeCleanedWith(Let wanted, int cleaning) {
            startCleaning();
            boolean isWaiting = true;
            for (int i = 0; i < size; i++) {
                Let let = lets[i];
                if (let.clashesWith(wanted, cleaning)) {
                    continue;
                }
                if (isWaiting && wanted.isCleanedBefore(let)) {
                    isWaiting = false;
                    if (!isServed(wanted, cleaning)) {
                        return false;
                    }
                }
                if (!isServed(let, cleaning)) {
                    return false;
                }
            }
            return !isWaiting || isServed(wanted, cleaning);
        }

        boolean canBeCleaned(int cleaning) {
            startCleaning();
            for (int i = 0; i < size; i++) {
                if (!isServed(lets[i], cleaning)) {
                    return false;
                }
            }
            return true;
        }

        private void startCleaning() {
            cleanerFreeFrom = 0;
            for (int hall = 0; hall < HALLS; hall++) {
                cleanFrom[hall] = 0;
            }
        }

        // Lets of one hall come here in the order of the day, so what is looked
        // at is the cleaning behind the let before this one in its hall.
        private boolean isServed(Let let, int cleaning) {
            if (let.from < cleanFrom[let.hall]) {
                return false;
            }
            int begin = let.to > cleanerFreeFrom ? let.to : cleanerFreeFrom;
            cleanerFreeFrom = begin + cleaning;
            cleanFrom[let.hall] = cleanerFreeFrom;
            return true;
        }

        int tenantAt(int hall, int hour) {
            for (int i = 0; i < size; i++) {
                Let let = lets[i];
                if (let.hall == hall && isIn(hour, let.from, let.to - 1)) {
                    return let.tenant;
                }
            }
            return NONE;
        }

        int sumIn(int hall, int what) {
            int sum = 0;
            for (int i = 0; i < size; i++) {
                if (lets[i].hall == hall) {
                    sum += lets[i].shareOfDay(what);
                }
            }
            return sum;
        }

        int hoursWithoutTenant(int hall) {
            int sum = 0;
            for (int hour = 0; hour < HOURS; hour++) {
                if (tenantAt(hall, hour) == NONE) {
                    sum++;
                }
            }
            return sum;
        }
    }

    // The buffer, and how far its reading has come: a part has six numbers,
    // each with a sign of its own behind it.
    private static final class LetText {
        private static final int MOST_CODES = 60;
        private static final int NUMBERS = 6;
        private static final int[] LOWEST = {0, 0, 0, 1, 1, 0};
        private static final int[] HIGHEST = {2, 83, 23, 24, 9, 19};
        private static final String SIGNS = ":,-*@;";

        final int[] codes = new int[MOST_CODES];
        int length;
        // The numbers of the part that is read.
        final int[] numbers = new int[NUMBERS];
        int slot;
        int digits;

        boolean isFull() {
            return length >= MOST_CODES;
        }

        void push(int code) {
            if (!isFull()) {
                codes[length] = code;
                length++;
            }
        }

        void startReading() {
            slot = 0;
            digits = 0;
        }

        int firstBadIndex() {
            startReading();
            for (int i = 0; i < length; i++) {
                if (!accepts(codes[i])) {
                    return i;
                }
            }
            return length;
        }

        boolean isComplete() {
            return firstBadIndex() == length && slot == NUMBERS - 1 && digits > 0;
        }

        boolean endsPart(int index) {
            int next = index + 1;
            return next >= length || codes[next] == ';';
        }

        boolean accepts(int code) {
            if (code >= '0' && code <= '9') {
                return acceptsDigit(code - '0');
            }
            if (digits < 1 || code != SIGNS.charAt(slot)) {
                return false;
            }
            slot = (slot + 1) % NUMBERS;
            digits = 0;
            return true;
        }

        // A number that begins with a digit in its range can always end there,
        // as none of the lowest ones has two digits.
        private boolean acceptsDigit(int digit) {
            if (digits > 0 && numbers[slot] == 0) {
                return false;
            }
            int number = digits > 0 ? 10 * numbers[slot] + digit : digit;
            if (!isIn(number, LOWEST[slot], HIGHEST[slot])) {
                return false;
            }
            numbers[slot] = number;
            digits++;
            return true;
        }
    }
}
