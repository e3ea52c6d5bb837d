/**
 * On the last day: papers that are due on a DAY, and PEOPLE of KINDS who work towards it.
 * The words in capitals are those of the document.
 */
public final class LastDays {
    public static final int BAD = -1, FULL = -2, NONE = -3, STATE = -4;

    private static final int HOST_NOTHING = -11, HOST_OUTSIDE = -12, HOST_OTHER_SORT = -13;
    private static final int HOST_BELOW_ZERO = -14, HOST_BY_ZERO = -15;
    private static final int ABSENT = -9;
    private static final int FAULT_BASE = -100;

    private static final int ALL_DAYS = 60, ILL_DAYS = 30, ALL_ILL = (1 << ILL_DAYS) - 1;
    private static final int MAX_PEOPLE = 6, MAX_DATES = 3, MAX_A = 9, MAX_WORK = 99, MAX_PART = 99;
    private static final int MAX_DATE_DAY = 49, TRIED_PART = 50, TOP_MARK = 120;
    private static final int MAX_TAPE = 200, MAX_FED = 8, MAX_ROWS = 20, ROW_PARTS = 3, MAX_RAN = 30;
    private static final int SHEETS = 4, MAX_ITEMS = 40, SORT_BYTES = 0, SORT_SHORTS = 1, SORTS = 4;
    private static final int SHELVES = 4, AS_ROW = 10, NOBODY = -1;

    private static final int DUE = 0, MOST = 1, PENALTY = 2, BONUS = 3, MISSED = 4, LAWS = 5;
    private static final int[] LAW_LEAST = {1, 1, 0, 0, 0};
    private static final int[] LAW_MOST = {50, 12, 30, 10, 30};
    private static final int[] LAW_FIRST = {29, 8, 5, 0, 5};

    private static final int WORKER = 0, LATE = 1, HALVER = 2, WAITER = 3, STEADY = 4, BUSY = 5, KINDS = 6;
    private static final int[] KIND_ABOVE = {-1, WORKER, WORKER, LATE, HALVER, WORKER};

    private final Course now = new Course();
    private final Course kept = new Course();
    /** Whatever is only tried happens here, so that a TRIAL changes nothing and makes no objects. */
    private final Course tried = new Course();
    private boolean hasKept;
    private final Tape tape = new Tape();
    private final int[] rows = new int[MAX_ROWS * ROW_PARTS];
    private int rowCount;
    private final Sheet[] sheets = new Sheet[SHEETS];
    private final Sheet[] shelfRow = new Sheet[SHELVES];
    private final int[] shelfPerson = new int[SHELVES];
    private final Thing thing = new Thing();

    public LastDays() {
        for (int i = 0; i < SHELVES; i++) {
            shelfPerson[i] = NOBODY;
        }
    }

    // ---- the task

    public int feed(long eight, int n) {
        if (n < 1 || n > MAX_FED) {
            return BAD;
        }
        return tape.append(eight, n) ? tape.length : FULL;
    }

    public int task() {
        int fault = tape.readInto(tried);
        tape.length = 0;
        if (fault >= 0) {
            return FAULT_BASE - fault;
        }
        tried.z = now.z;
        now.copyFrom(tried);
        rowCount = 0;
        return now.people;
    }

    public int set(int law, int v) {
        if (!isLaw(law) || v < LAW_LEAST[law] || v > LAW_MOST[law]) {
            return BAD;
        }
        int was = now.laws[law];
        now.laws[law] = v;
        now.dropDatesNotBelowDue();
        return was;
    }

    public int lawOf(int law) {
        return isLaw(law) ? now.laws[law] : BAD;
    }

    public int date(int day, int part) {
        if (day < 0 || day >= now.laws[DUE] || part < 1 || part > MAX_PART) {
            return BAD;
        }
        if (now.hasDateOn(day)) {
            return STATE;
        }
        if (now.dates >= MAX_DATES) {
            return FULL;
        }
        now.addDate(day, part);
        return now.dates;
    }

    public int dateOf(int i, int what) {
        if (what != 0 && what != 1) {
            return BAD;
        }
        if (i < 0 || i >= now.dates) {
            return NONE;
        }
        return what == 0 ? now.dateDay[i] : now.datePart[i];
    }

    public int strike(int i) {
        if (i < 0 || i >= now.dates) {
            return BAD;
        }
        now.removeDate(i);
        return now.dates;
    }

    public int person(int kind, int a, int work) {
        if (!isKind(kind) || !isA(a) || work < 1 || work > MAX_WORK) {
            return BAD;
        }
        return now.people < MAX_PEOPLE ? now.addPerson(kind, a, work) : FULL;
    }

    public int personOf(int person, int what) {
        if (!isPerson(person)) {
            return BAD;
        }
        Person one = now.persons[person];
        switch (what) {
            case 0: return one.kind;
            case 1: return one.a;
            case 2: return one.work;
            case 3: return one.done;
            case 4: return one.ill;
            case 5: return one.hasHanded() ? one.handed : ABSENT;
            case 6: return one.missed;
            case 7: return one.hasHanded() ? now.markFor(one) : ABSENT;
            default: return BAD;
        }
    }

    public int mind(int person, int kind, int a) {
        if (!isPerson(person) || !isKind(kind) || !isA(a)) {
            return BAD;
        }
        Person one = now.persons[person];
        int was = one.kind;
        one.kind = kind;
        one.a = a;
        return was;
    }

    public int ill(int person, int days) {
        if (!isPerson(person) || days < 0 || days > ALL_ILL) {
            return BAD;
        }
        now.persons[person].ill = days;
        return Integer.bitCount(days);
    }

    public int goal(int person, int what) {
        if (!isPerson(person) || what < 0 || what > 3) {
            return BAD;
        }
        Person one = now.persons[person];
        if (one.hasHanded() || now.today >= ALL_DAYS) {
            return STATE;
        }
        int goal = now.goalIndex(one, now.today);
        switch (what) {
            case 0: return now.goalDay(goal);
            case 1: return now.leftTo(goal, one);
            case 2: return now.toGo(goal, now.today);
            default: return now.hoursOn(one, now.today);
        }
    }

    public int today() {
        return now.today;
    }

    // ---- days

    public int days(int n) {
        if (n < 0 || n > ALL_DAYS) {
            return BAD;
        }
        now.goTo(Math.min(ALL_DAYS, now.today + n));
        return now.today;
    }

    // ---- what will be

    public int heap(int day) {
        if (day < 0 || day >= ALL_DAYS) {
            return BAD;
        }
        tryAsItIs();
        int many = 0;
        for (int i = 0; i < tried.people; i++) {
            if (tried.persons[i].hasHanded() && tried.persons[i].handed == day) {
                many++;
            }
        }
        return many;
    }

    public int when(int person) {
        if (!isPerson(person)) {
            return BAD;
        }
        tried.copyFrom(now);
        tried.finish(person);
        Person one = tried.persons[person];
        return one.hasHanded() ? one.handed : NONE;
    }

    public int markOf(int person) {
        if (!isPerson(person)) {
            return BAD;
        }
        tried.copyFrom(now);
        int mark = tried.finish(person);
        return mark >= 0 ? mark : NONE;
    }

    public int late() {
        tryAsItIs();
        return tried.lateSet();
    }

    public int marks() {
        tryAsItIs();
        return tried.sumOfMarks();
    }

    public int bestDate() {
        int best = NONE;
        int most = -1;
        for (int day = now.today; day < now.laws[DUE]; day++) {
            if (now.hasDateOn(day)) {
                continue;
            }
            // NONE is named ahead of FULL: a free DAY must be found before FULL is the answer.
            if (now.dates >= MAX_DATES) {
                return FULL;
            }
            tried.copyFrom(now);
            tried.addDate(day, TRIED_PART);
            tried.goTo(ALL_DAYS);
            int sum = tried.sumOfMarks();
            if (sum > most) {
                most = sum;
                best = day;
            }
        }
        return best;
    }

    public int enough(int person, int mark) {
        if (!isPerson(person) || mark < 1 || mark > TOP_MARK) {
            return BAD;
        }
        tried.copyFrom(now);
        if (tried.finish(person) < 0) {
            return NONE;
        }
        // Nobody works otherwise for a PENALTY, so that one TRIAL serves for all of them.
        for (int penalty = LAW_LEAST[PENALTY]; penalty <= LAW_MOST[PENALTY]; penalty++) {
            tried.laws[PENALTY] = penalty;
            if (tried.markFor(tried.persons[person]) < mark) {
                return penalty;
            }
        }
        return NONE;
    }

    public int patience(int person) {
        if (!isPerson(person)) {
            return BAD;
        }
        int best = NONE;
        int most = -1;
        for (int a = 0; a <= MAX_A; a++) {
            tried.copyFrom(now);
            tried.persons[person].a = a;
            int mark = tried.finish(person);
            if (mark > most) {
                most = mark;
                best = a;
            }
        }
        return best;
    }

    public int worst(int person) {
        if (!isPerson(person)) {
            return BAD;
        }
        int worstDay = NONE;
        int least = TOP_MARK + 1;
        for (int day = now.today; day < ILL_DAYS; day++) {
            if (now.persons[person].isIllOn(day)) {
                continue;
            }
            tried.copyFrom(now);
            tried.persons[person].ill |= 1 << day;
            int mark = tried.finish(person);
            if (mark < least) {
                least = mark;
                worstDay = day;
            }
        }
        return worstDay;
    }

    public int sooner() {
        tryAsItIs();
        int lateNow = tried.lateSet();
        int first = now.dates > 0 ? now.dateDay[now.dates - 1] + 1 : LAW_LEAST[DUE];
        for (int due = first; due <= LAW_MOST[DUE]; due++) {
            tried.copyFrom(now);
            tried.laws[DUE] = due;
            tried.goTo(ALL_DAYS);
            if ((tried.lateSet() & ~lateNow) == 0) {
                return due;
            }
        }
        return NONE;
    }

    public int seed(int v) {
        int was = now.z;
        now.z = v;
        return was;
    }

    public int lot(int person) {
        if (!isPerson(person)) {
            return BAD;
        }
        now.z = now.z * 1103515245 + 12345;
        int day = (now.z >>> 16) % ILL_DAYS;
        now.persons[person].ill |= 1 << day;
        return day;
    }

    // ---- rows

    public int prove(int person, int n) {
        if (!isPerson(person) || n < 1 || n > MAX_ROWS) {
            return BAD;
        }
        tried.copyFrom(now);
        Person one = tried.persons[person];
        rowCount = Math.min(n, ALL_DAYS - now.today);
        for (int i = 0; i < rowCount; i++) {
            int day = now.today + i;
            rows[i * ROW_PARTS] = day;
            rows[i * ROW_PARTS + 1] = tried.liveDay(one, day);
            rows[i * ROW_PARTS + 2] = one.done;
        }
        return rowCount;
    }

    public int row(int i, int what) {
        return isRowPart(i, what) ? rows[i * ROW_PARTS + what] : ABSENT;
    }

    public int alterRow(int i, int what, int v) {
        if (!isRowPart(i, what)) {
            return ABSENT;
        }
        int was = rows[i * ROW_PARTS + what];
        rows[i * ROW_PARTS + what] = v;
        return was;
    }

    public int judge(int person) {
        if (!isPerson(person)) {
            return BAD;
        }
        tried.copyFrom(now);
        Person one = tried.persons[person];
        for (int i = 0; i < rowCount; i++) {
            int day = now.today + i;
            if (day >= ALL_DAYS) {
                return i + 1;
            }
            int hours = tried.liveDay(one, day);
            if (!isRow(i, day, hours, one.done)) {
                return i + 1;
            }
        }
        return 0;
    }

    public int minds(int sheet, int i, int person, int n) {
        if (!isSheet(sheet) || !isPerson(person) || n < 0 || n > MAX_PEOPLE || n > now.people - person) {
            return BAD;
        }
        Sheet taken = sheets[sheet];
        if (taken == null) {
            return HOST_NOTHING;
        }
        if (taken.sort != SORT_BYTES) {
            return HOST_OTHER_SORT;
        }
        if (i < 0 || i > taken.items.length - n) {
            return HOST_OUTSIDE;
        }
        for (int k = 0; k < n; k++) {
            now.persons[person + k].a = Math.max(0, Math.min(MAX_A, (int) taken.items[i + k]));
        }
        return n;
    }

    // ---- the host

    public int sheet(int sheet, int sort, int n) {
        if (!isSheet(sheet) || sort < -1 || sort >= SORTS) {
            return BAD;
        }
        if (sort == -1) {
            sheets[sheet] = null;
            return 1;
        }
        if (n > MAX_ITEMS) {
            return BAD;
        }
        if (n < 0) {
            return HOST_BELOW_ZERO;
        }
        sheets[sheet] = new Sheet(sort, new long[n]);
        return 1;
    }

    public int put(int sheet, int i, int v) {
        if (!isSheet(sheet)) {
            return BAD;
        }
        Sheet target = sheets[sheet];
        if (target == null) {
            return HOST_NOTHING;
        }
        if (!target.hasItem(i)) {
            return HOST_OUTSIDE;
        }
        target.items[i] = target.narrowed(v);
        return 1;
    }

    public int item(int sheet, int sort, int i) {
        if (!isSheet(sheet) || sort < 0 || sort >= SORTS) {
            return BAD;
        }
        Sheet source = sheets[sheet];
        if (source == null) {
            return HOST_NOTHING;
        }
        if (source.sort != sort) {
            return HOST_OTHER_SORT;
        }
        return source.hasItem(i) ? (int) source.items[i] : HOST_OUTSIDE;
    }

    public int shelf(int shelf, int what, int n) {
        if (!isShelf(shelf) || !isThingFor(what, n)) {
            return BAD;
        }
        shelfPerson[shelf] = what == 0 ? n : NOBODY;
        // The row itself is held, so that it stays when the SHEET gets another one.
        shelfRow[shelf] = what == 1 ? sheets[n] : null;
        return 1;
    }

    public int taken(int shelf, int as) {
        boolean asRow = as >= AS_ROW && as < AS_ROW + SORTS;
        if (!isShelf(shelf) || !asRow && !isKind(as)) {
            return BAD;
        }
        int held = personOn(shelf);
        Sheet heldRow = shelfRow[shelf];
        if (held == NOBODY && heldRow == null) {
            return HOST_NOTHING;
        }
        if (heldRow != null) {
            return asRow && heldRow.sort == as - AS_ROW ? heldRow.items.length : HOST_OTHER_SORT;
        }
        return !asRow && isOfKind(now.persons[held].kind, as) ? held : HOST_OTHER_SORT;
    }

    public int act(int shelf, int act, int x) {
        thing.forget();
        if (!isShelf(shelf) || act < 0 || act > 3) {
            return 0;
        }
        int held = personOn(shelf);
        if (held == NOBODY) {
            return 0;
        }
        thing.become(now.persons[held], held);
        return thing.answer(act, x);
    }

    public int trace(int i) {
        return i >= 0 && i < thing.ranCount ? thing.ran[i] : NONE;
    }

    public int many(int what) {
        switch (what) {
            case 0: return now.people;
            case 1: return now.dates;
            case 2: return now.handedCount();
            case 3: return rowCount;
            case 4: return tape.length;
            case 5: return thing.ranCount;
            default: return BAD;
        }
    }

    // ---- kept

    public int keep() {
        kept.copyFrom(now);
        hasKept = true;
        return 1;
    }

    public int again() {
        if (!hasKept) {
            return NONE;
        }
        now.copyFrom(kept);
        return now.today;
    }

    private void tryAsItIs() {
        tried.copyFrom(now);
        tried.goTo(ALL_DAYS);
    }

    private boolean isPerson(int person) {
        return person >= 0 && person < now.people;
    }

    private boolean isRowPart(int i, int what) {
        return i >= 0 && i < rowCount && what >= 0 && what < ROW_PARTS;
    }

    private boolean isRow(int i, int day, int hours, int done) {
        int at = i * ROW_PARTS;
        return rows[at] == day && rows[at + 1] == hours && rows[at + 2] == done;
    }

    private boolean isThingFor(int what, int n) {
        switch (what) {
            case 0: return isPerson(n);
            case 1: return isSheet(n);
            default: return what == 2;
        }
    }

    /** A PERSON is held by number: whoever bears it now, or nobody. */
    private int personOn(int shelf) {
        return isPerson(shelfPerson[shelf]) ? shelfPerson[shelf] : NOBODY;
    }

    private static boolean isLaw(int law) {
        return law >= 0 && law < LAWS;
    }

    private static boolean isKind(int kind) {
        return kind >= 0 && kind < KINDS;
    }

    private static boolean isA(int a) {
        return a >= 0 && a <= MAX_A;
    }

    private static boolean isSheet(int sheet) {
        return sheet >= 0 && sheet < SHEETS;
    }

    private static boolean isShelf(int shelf) {
        return shelf >= 0 && shelf < SHELVES;
    }

    private static boolean isOfKind(int kind, int wanted) {
        int above = kind;
        for (int i = 0; i < KINDS && above >= 0; i++) {
            if (above == wanted) {
                return true;
            }
            above = KIND_ABOVE[above];
        }
        return false;
    }

    /** One of the PEOPLE. */
    private static final class Person {
        int kind, a, work, done, ill, handed, missed;

        void start(int newKind, int newA, int newWork) {
            kind = newKind;
            a = newA;
            work = newWork;
            done = 0;
            ill = 0;
            handed = ABSENT;
            missed = 0;
        }

        void copyFrom(Person other) {
            kind = other.kind;
            a = other.a;
            work = other.work;
            done = other.done;
            ill = other.ill;
            handed = other.handed;
            missed = other.missed;
        }

        boolean hasHanded() {
            return handed != ABSENT;
        }

        boolean isIllOn(int day) {
            return day < ILL_DAYS && (ill >> day & 1) == 1;
        }

        int hoursOfPart(int part) {
            return work * part / 100;
        }
    }

    /** All that can be kept: LAWS, DATES, PEOPLE, TODAY and z. */
    private static final class Course {
        final int[] laws = new int[LAWS];
        final int[] dateDay = new int[MAX_DATES];
        final int[] datePart = new int[MAX_DATES];
        final Person[] persons = new Person[MAX_PEOPLE];
        int dates, people, today, z;

        Course() {
            for (int i = 0; i < MAX_PEOPLE; i++) {
                persons[i] = new Person();
            }
            z = 1;
            clear();
        }

        /** z stays. */
        void clear() {
            System.arraycopy(LAW_FIRST, 0, laws, 0, LAWS);
            dates = 0;
            people = 0;
            today = 0;
        }

        void copyFrom(Course other) {
            System.arraycopy(other.laws, 0, laws, 0, LAWS);
            System.arraycopy(other.dateDay, 0, dateDay, 0, MAX_DATES);
            System.arraycopy(other.datePart, 0, datePart, 0, MAX_DATES);
            for (int i = 0; i < other.people; i++) {
                persons[i].copyFrom(other.persons[i]);
            }
            dates = other.dates;
            people = other.people;
            today = other.today;
            z = other.z;
        }

        int addPerson(int kind, int a, int work) {
            persons[people].start(kind, a, work);
            people++;
            return people - 1;
        }

        boolean hasDateOn(int day) {
            for (int i = 0; i < dates; i++) {
                if (dateDay[i] == day) {
                    return true;
                }
            }
            return false;
        }

        /** Callers see to it that there is room. */
        void addDate(int day, int part) {
            int at = dates;
            for (; at > 0 && dateDay[at - 1] > day; at--) {
                dateDay[at] = dateDay[at - 1];
                datePart[at] = datePart[at - 1];
            }
            dateDay[at] = day;
            datePart[at] = part;
            dates++;
        }

        void removeDate(int gone) {
            for (int i = gone + 1; i < dates; i++) {
                dateDay[i - 1] = dateDay[i];
                datePart[i - 1] = datePart[i];
            }
            dates--;
        }

        void dropDatesNotBelowDue() {
            while (dates > 0 && dateDay[dates - 1] >= laws[DUE]) {
                dates--;
            }
        }

        /** The DATE that is the GOAL, or as many as there are DATES if it is DUE. */
        int goalIndex(Person one, int day) {
            for (int i = 0; i < dates; i++) {
                if (dateDay[i] >= day && one.hoursOfPart(datePart[i]) > one.done) {
                    return i;
                }
            }
            return dates;
        }

        int goalDay(int goal) {
            return goal < dates ? dateDay[goal] : laws[DUE];
        }

        int leftTo(int goal, Person one) {
            int hours = goal < dates ? one.hoursOfPart(datePart[goal]) : one.work;
            return hours - one.done;
        }

        int toGo(int goal, int day) {
            return Math.max(1, goalDay(goal) - day + 1);
        }

        int hoursOn(Person one, int day) {
            if (one.hasHanded() || one.isIllOn(day)) {
                return 0;
            }
            int goal = goalIndex(one, day);
            int wanted = wantedHours(one, day, leftTo(goal, one), toGo(goal, day));
            return Math.min(Math.min(wanted, laws[MOST]), one.work - one.done);
        }

        private int wantedHours(Person one, int day, int left, int toGo) {
            int most = laws[MOST];
            switch (one.kind) {
                case LATE: return left + one.a > most * (toGo - 1) ? most : 0;
                case WAITER: return left > most * (toGo - 1) ? most : 0;
                case HALVER: return 2 * left / (toGo + 1) + 1;
                case STEADY: return (left + toGo - 1) / toGo;
                case BUSY: return (day * 7 + one.a) % 3 == 0 ? 0 : one.a + 1;
                default: return one.a + 1;
            }
        }

        /** Answers the HOURS of that DAY. */
        int liveDay(Person one, int day) {
            if (one.hasHanded()) {
                return 0;
            }
            int hours = hoursOn(one, day);
            one.done += hours;
            for (int i = 0; i < dates; i++) {
                if (dateDay[i] == day && one.done < one.hoursOfPart(datePart[i])) {
                    one.missed++;
                }
            }
            if (one.done >= one.work) {
                one.handed = day;
            }
            return hours;
        }

        /** One after the other comes to the same as day after day: nobody's work depends on another's. */
        void goTo(int end) {
            for (int i = 0; i < people; i++) {
                live(persons[i], end);
            }
            today = end;
        }

        /** Till the end of all DAYS, for one PERSON alone: the MARK, or -1. */
        int finish(int person) {
            live(persons[person], ALL_DAYS);
            return markFor(persons[person]);
        }

        private void live(Person one, int end) {
            for (int day = today; day < end && !one.hasHanded(); day++) {
                liveDay(one, day);
            }
        }

        /** -1: no MARK. */
        int markFor(Person one) {
            if (!one.hasHanded()) {
                return -1;
            }
            int early = laws[DUE] - one.handed;
            int perDay = early > 0 ? laws[BONUS] : laws[PENALTY];
            int mark = 100 + early * perDay - one.missed * laws[MISSED];
            return Math.max(0, Math.min(TOP_MARK, mark));
        }

        int sumOfMarks() {
            int sum = 0;
            for (int i = 0; i < people; i++) {
                sum += Math.max(0, markFor(persons[i]));
            }
            return sum;
        }

        int lateSet() {
            int set = 0;
            for (int i = 0; i < people; i++) {
                if (!persons[i].hasHanded() || persons[i].handed > laws[DUE]) {
                    set |= 1 << i;
                }
            }
            return set;
        }

        int handedCount() {
            int count = 0;
            for (int i = 0; i < people; i++) {
                if (persons[i].hasHanded()) {
                    count++;
                }
            }
            return count;
        }
    }

    /** THE TAPE, and how its TEXT is read: one NAME, NUMBER or other byte at a time. */
    private static final class Tape {
        private static final int AT_END = 0, A_NAME = 1, A_NUMBER = 2, A_SIGN = 3;
        private static final int NO_FAULT = -1;

        private final byte[] bytes = new byte[MAX_TAPE];
        int length;
        private Course told;
        /** What is looked at stands from start to end (the end itself is outside). */
        private int start, end, sort;
        private int number;
        private int fault;

        boolean append(long eight, int n) {
            if (length + n > MAX_TAPE) {
                return false;
            }
            for (int i = 0; i < n; i++) {
                bytes[length] = (byte) (eight >>> (8 * i));
                length++;
            }
            return true;
        }

        /** Answers the FAULT, or -1; with a FAULT what was read into is of no use. */
        int readInto(Course course) {
            told = course;
            told.clear();
            fault = NO_FAULT;
            end = 0;
            step();
            for (int i = 0; i <= length && sort != AT_END && fault == NO_FAULT; i++) {
                readStatement();
            }
            told.dropDatesNotBelowDue();
            return fault;
        }

        private void readStatement() {
            int kind = kindHere();
            if (kind >= 0) {
                readPerson(kind);
            } else if (isName("due")) {
                readLaw(DUE);
            } else if (isName("most")) {
                readLaw(MOST);
            } else if (isName("penalty")) {
                readLaw(PENALTY);
            } else if (isName("date")) {
                readDate();
            } else {
                fail();
            }
        }

        private int kindHere() {
            if (isName("worker")) {
                return WORKER;
            }
            if (isName("late")) {
                return LATE;
            }
            if (isName("halver")) {
                return HALVER;
            }
            if (isName("waiter")) {
                return WAITER;
            }
            if (isName("steady")) {
                return STEADY;
            }
            return isName("busy") ? BUSY : -1;
        }

        private void readPerson(int kind) {
            if (told.people >= MAX_PEOPLE) {
                fail();
                return;
            }
            step();
            if (!takeNumber(0, MAX_A)) {
                return;
            }
            int a = number;
            if (!takeName("work") || !takeNumber(1, MAX_WORK)) {
                return;
            }
            Person one = told.persons[told.addPerson(kind, a, number)];
            boolean more = isName("ill");
            for (int i = 0; i <= length && more; i++) {
                step();
                if (!takeNumber(0, ILL_DAYS - 1)) {
                    return;
                }
                one.ill |= 1 << number;
                more = isSign(',');
            }
            takeSign(';');
        }

        private void readLaw(int law) {
            step();
            if (takeNumber(LAW_LEAST[law], LAW_MOST[law])) {
                told.laws[law] = number;
                takeSign(';');
            }
        }

        private void readDate() {
            if (told.dates >= MAX_DATES) {
                fail();
                return;
            }
            step();
            int least = told.dates > 0 ? told.dateDay[told.dates - 1] + 1 : 0;
            if (!takeNumber(least, MAX_DATE_DAY)) {
                return;
            }
            int day = number;
            if (takeName("part") && takeNumber(1, MAX_PART)) {
                told.addDate(day, number);
                takeSign(';');
            }
        }

        private boolean takeNumber(int least, int most) {
            if (sort != A_NUMBER || end - start > 2) {
                return fail();
            }
            int value = 0;
            for (int i = start; i < end; i++) {
                value = value * 10 + bytes[i] - '0';
            }
            if (value < least || value > most) {
                return fail();
            }
            number = value;
            step();
            return true;
        }

        private boolean takeName(String name) {
            if (!isName(name)) {
                return fail();
            }
            step();
            return true;
        }

        private boolean takeSign(char sign) {
            if (!isSign(sign)) {
                return fail();
            }
            step();
            return true;
        }

        private boolean isName(String name) {
            if (sort != A_NAME || end - start != name.length()) {
                return false;
            }
            for (int i = 0; i < name.length(); i++) {
                if (bytes[start + i] != name.charAt(i)) {
                    return false;
                }
            }
            return true;
        }

        private boolean isSign(char sign) {
            return sort == A_SIGN && bytes[start] == sign;
        }

        private boolean fail() {
            fault = start;
            return false;
        }

        private void step() {
            start = end;
            while (start < length && bytes[start] == ' ') {
                start++;
            }
            end = start;
            sort = start < length ? sortOf(bytes[start]) : AT_END;
            if (sort == A_SIGN) {
                end++;
            } else {
                while (end < length && sortOf(bytes[end]) == sort) {
                    end++;
                }
            }
        }

        private static int sortOf(byte b) {
            if (b >= 'a' && b <= 'z') {
                return A_NAME;
            }
            return b >= '0' && b <= '9' ? A_NUMBER : A_SIGN;
        }
    }

    /** A SHEET's row. Items are held narrowed, so that one form serves for all sorts. */
    private static final class Sheet {
        final int sort;
        final long[] items;

        Sheet(int sort, long[] items) {
            this.sort = sort;
            this.items = items;
        }

        boolean hasItem(int i) {
            return i >= 0 && i < items.length;
        }

        long narrowed(int v) {
            switch (sort) {
                case SORT_BYTES: return (byte) v;
                case SORT_SHORTS: return (short) v;
                default: return v;
            }
        }
    }

    /**
     * A PERSON as a thing with ACTS, and THE TRACE of its bodies. Each method takes the KIND whose
     * body is sought: 'kind' where the thing itself is asked, the KIND above where super is. The
     * KINDS stand three high at most and no ACT comes back to itself but by super, so it ends.
     */
    private static final class Thing {
        final int[] ran = new int[MAX_RAN];
        int ranCount;
        private int kind, a, n;
        private boolean partedByZero;

        void forget() {
            ranCount = 0;
            partedByZero = false;
        }

        void become(Person one, int number) {
            kind = one.kind;
            a = one.a;
            n = number;
        }

        int answer(int act, int x) {
            int answer;
            switch (act) {
                case 0: answer = worksAs(kind, x); break;
                case 1: answer = waitsAs(kind, x); break;
                case 2: answer = sharesAs(kind, x); break;
                default: answer = tellsAs(kind, x); break;
            }
            return partedByZero ? HOST_BY_ZERO : answer;
        }

        /** Behind a parting by 0 nothing runs any more. */
        private void begin(int body) {
            if (!partedByZero && ranCount < MAX_RAN) {
                ran[ranCount] = body;
                ranCount++;
            }
        }

        private int worksAs(int as, int x) {
            switch (as) {
                case HALVER: begin(30); return worksAs(WORKER, x) * 3;
                case STEADY: begin(40); return 0 - worksAs(HALVER, x);
                case WAITER: begin(51); return worksAs(LATE, x) - n;
                default: begin(10); return x + n;
            }
        }

        private int waitsAs(int as, int x) {
            switch (as) {
                case LATE:
                case WAITER: begin(20); return waitsAs(WORKER, x) - a;
                case STEADY: begin(41); return waitsAs(HALVER, x) + worksAs(kind, n);
                default: begin(11); return worksAs(kind, x) * 2;
            }
        }

        private int sharesAs(int as, int x) {
            switch (as) {
                case WAITER: begin(50); return sharesAs(LATE, x + 2) ^ 1;
                case BUSY: begin(61); return sharesAs(WORKER, x) + worksAs(kind, a);
                default: begin(12); return partedBy(x, a - n);
            }
        }

        private int tellsAs(int as, int x) {
            switch (as) {
                case HALVER:
                case STEADY: begin(31); return tellsAs(WORKER, x) + sharesAs(kind, n);
                case BUSY: begin(60); return tellsAs(WORKER, x) * 2;
                default: begin(13); return waitsAs(kind, x) ^ a;
            }
        }

        private int partedBy(int x, int divisor) {
            if (divisor == 0) {
                partedByZero = true;
                return 0;
            }
            return x / divisor;
        }
    }
}
