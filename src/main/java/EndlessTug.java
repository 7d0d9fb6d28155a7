import java.util.Arrays;

/** The tug of war of ../shared/DOC.md: a rope, people of kinds on it or off, and days. */
public final class EndlessTug {
    private static final int BEYOND = -1000000001;
    private static final int FULL = -1000000002;
    private static final int KIND = -1000000003;
    private static final int NONE = -1000000004;
    private static final int STATE = -1000000005;
    private static final int MISSING = -1000000006;
    private static final int SIZE = -1000000007;
    private static final int FINDINGS = 7;

    private static final int MAN = 0;
    private static final int SON = 1;
    private static final int DRINKER = 2;
    private static final int WOMAN = 3;
    private static final int PREACHER = 4;
    private static final int STRANGER = 5;
    private static final int KINDS = 6;

    private static final int PUB = 0;
    private static final int CHAPEL = 1;

    private static final int WEEKS = 8;
    private static final int ALL_WEEKS = 255;
    private static final int LAST_DAY = 99999;
    private static final int FARTHEST = 9999;
    private static final int MOST_SLACK = 99;
    private static final int MOST_TIRED = 99;
    private static final int MOST_STRONG = 20;
    private static final int FIRST_STRONG = 8;
    private static final int RESTS = 10;
    private static final int MOST_PEOPLE = 10;

    private static final int DAYS_AT_ONCE = 100;
    private static final int DAYS_AHEAD = 400;
    private static final int DAYS_WEIGHED = 60;
    private static final int DAYS_OF_WEEKS = 100;

    private static final int SHEETS = 4;
    private static final int MOST_NUMBERS = 40;
    private static final int MOST_BYTES = 120;

    private final Green green = new Green();
    /** What is tried ON AND ON, so that green itself stays as it is. */
    private final Green trial = new Green();
    private final Green kept = new Green();
    private boolean isKept;
    private final Best best = new Best();
    private final Tape tape = new Tape();
    private final Sheet[] sheets = new Sheet[SHEETS];
    private final int[] found = new int[FINDINGS];

    public EndlessTug() {
        for (int s = 0; s < SHEETS; s++) {
            sheets[s] = new Sheet();
        }
    }

    // ---- the green

    public int slack(int v) {
        if (!isWithin(v, 0, MOST_SLACK)) {
            return finding(BEYOND);
        }
        int was = green.slack;
        green.slack = v;
        return was;
    }

    public int harvest(int set) {
        if (!isWithin(set, 0, ALL_WEEKS)) {
            return finding(BEYOND);
        }
        int was = green.harvest;
        green.harvest = set;
        return was;
    }

    public int knot(int v) {
        if (!isWithin(v, -FARTHEST, FARTHEST)) {
            return finding(BEYOND);
        }
        int was = green.knot;
        green.knot = v;
        return was;
    }

    public int now(int what) {
        switch (what) {
            case 0:
                return green.day;
            case 1:
                return green.weekOfYear();
            case 2:
                return green.isHarvest() ? 1 : 0;
            case 3:
                return green.isSunday() ? 1 : 0;
            case 4:
                return green.knot;
            case 5:
                return green.slack;
            case 6:
                return green.sideAhead();
            case 7:
                return green.setOn();
            case 8:
                return green.pullOf(PUB);
            case 9:
                return green.pullOf(CHAPEL);
            default:
                return finding(BEYOND);
        }
    }

    // ---- people

    public int person(int kind, int side) {
        if (!isKind(kind) || !isSide(side)) {
            return finding(BEYOND);
        }
        if (green.isFull()) {
            return finding(FULL);
        }
        int number = green.size;
        green.addOne(kind, side);
        return number;
    }

    public int of(int person, int what) {
        if (!green.has(person)) {
            return finding(BEYOND);
        }
        Person one = green.people[person];
        switch (what) {
            case 0:
                return one.kind.number;
            case 1:
                return one.side;
            case 2:
                return one.on;
            case 3:
                return one.tired;
            case 4:
                return one.strong;
            case 5:
                return one.kind.pull(one, green);
            case 6:
                return one.kind.tire(green);
            case 7:
                return one.kind.letsGo(one, green) ? 1 : 0;
            default:
                return finding(BEYOND);
        }
    }

    public int set(int person, int what, int v) {
        if (!green.has(person)) {
            return finding(BEYOND);
        }
        Person one = green.people[person];
        int was;
        if (what == 1 && isSide(v)) {
            was = one.side;
            one.side = v;
        } else if (what == 2 && isWithin(v, 0, 1)) {
            was = one.on;
            one.on = v;
        } else if (what == 3 && isWithin(v, 0, MOST_TIRED)) {
            was = one.tired;
            one.tired = v;
        } else if (what == 4 && isWithin(v, 1, MOST_STRONG)) {
            was = one.strong;
            one.strong = v;
        } else {
            was = finding(BEYOND);
        }
        return was;
    }

    public int turn(int person, int kind) {
        if (!green.has(person) || !isKind(kind)) {
            return finding(BEYOND);
        }
        Person one = green.people[person];
        int was = one.kind.number;
        one.kind = green.kinds[kind];
        return was;
    }

    public int as(int person, int kind) {
        if (!green.has(person) || !isKind(kind)) {
            return finding(BEYOND);
        }
        Person one = green.people[person];
        if (!one.kind.isOf(kind)) {
            return finding(KIND);
        }
        return one.strong;
    }

    public int relieve(int fresh, int weary) {
        if (!green.has(fresh) || !green.has(weary)) {
            return finding(BEYOND);
        }
        if (!green.canSwap(fresh, weary)) {
            return finding(STATE);
        }
        green.swap(fresh, weary);
        return 1;
    }

    // ---- days

    public int days(int n) {
        if (!isWithin(n, 1, DAYS_AT_ONCE)) {
            return finding(BEYOND);
        }
        if (green.day + n > LAST_DAY) {
            return finding(STATE);
        }
        green.go(n);
        return green.knot;
    }

    public int on(int n, int what) {
        if (!isWithin(n, 0, DAYS_AHEAD) || !isWithin(what, 0, 1)) {
            return finding(BEYOND);
        }
        trial.become(green);
        trial.go(n);
        return what == 0 ? trial.knot : trial.setOn();
    }

    public int then(int person, int n, int what) {
        if (!green.has(person) || !isWithin(n, 0, DAYS_AHEAD) || !isWithin(what, 0, 1)) {
            return finding(BEYOND);
        }
        trial.become(green);
        trial.go(n);
        Person one = trial.people[person];
        return what == 0 ? one.on : one.tired;
    }

    public int wins(int side, int v) {
        if (!isSide(side) || !isWithin(v, 1, FARTHEST)) {
            return finding(BEYOND);
        }
        trial.become(green);
        for (int n = 0; n <= DAYS_AHEAD; n++) {
            if (trial.towards(side) >= v) {
                return n;
            }
            trial.goDay();
        }
        return finding(NONE);
    }

    public int off(int person) {
        if (!green.has(person)) {
            return finding(BEYOND);
        }
        trial.become(green);
        for (int n = 0; n <= DAYS_AHEAD; n++) {
            if (trial.people[person].on == 0) {
                return n;
            }
            trial.goDay();
        }
        return finding(NONE);
    }

    public int turns() {
        trial.become(green);
        for (int n = 1; n <= DAYS_AHEAD; n++) {
            trial.goDay();
            if (trial.sideAhead() != green.sideAhead()) {
                return n;
            }
        }
        return finding(NONE);
    }

    // ---- what is best

    public int spell(int person, int n) {
        if (!green.has(person) || !isWithin(n, 1, DAYS_WEIGHED)) {
            return finding(BEYOND);
        }
        Person weary = green.people[person];
        if (weary.on == 0) {
            return finding(STATE);
        }
        best.clear();
        for (int fresh = 0; fresh < green.size; fresh++) {
            if (green.canSwap(fresh, person)) {
                trial.become(green);
                trial.swap(fresh, person);
                trial.go(n);
                best.offer(fresh, trial.towards(weary.side));
            }
        }
        return bestOrNone();
    }

    public int kind(int person, int n) {
        if (!green.has(person) || !isWithin(n, 1, DAYS_WEIGHED)) {
            return finding(BEYOND);
        }
        int side = green.people[person].side;
        best.clear();
        for (int kind = 0; kind < KINDS; kind++) {
            trial.become(green);
            trial.people[person].kind = trial.kinds[kind];
            trial.go(n);
            best.offer(kind, trial.towards(side));
        }
        return best.which;
    }

    public int week(int side, int n) {
        if (!isSide(side) || !isWithin(n, 1, DAYS_OF_WEEKS)) {
            return finding(BEYOND);
        }
        best.clear();
        for (int week = 0; week < WEEKS; week++) {
            trial.become(green);
            trial.harvest ^= 1 << week;
            trial.go(n);
            best.offer(week, trial.towards(side));
        }
        return best.which;
    }

    public int strong(int person, int n, int v) {
        if (!green.has(person) || !isWithin(n, 1, DAYS_WEIGHED) || !isWithin(v, -FARTHEST, FARTHEST)) {
            return finding(BEYOND);
        }
        int side = green.people[person].side;
        for (int strong = 1; strong <= MOST_STRONG; strong++) {
            trial.become(green);
            trial.people[person].strong = strong;
            trial.go(n);
            if (trial.towards(side) >= v) {
                return strong;
            }
        }
        return finding(NONE);
    }

    public int bears(int person, int n) {
        if (!green.has(person) || !isWithin(n, 1, DAYS_WEIGHED)) {
            return finding(BEYOND);
        }
        for (int tired = MOST_TIRED; tired >= 0; tired--) {
            trial.become(green);
            trial.people[person].tired = tired;
            trial.go(n);
            if (trial.people[person].on == 1) {
                return tired;
            }
        }
        return finding(NONE);
    }

    public int fewest(int side) {
        if (!isSide(side)) {
            return finding(BEYOND);
        }
        int lead = green.pullOf(side) - green.pullOf(1 - side);
        int off = green.setOff(side);
        best.clear();
        for (int set = 0; set <= off; set++) {
            boolean areOff = (set & ~off) == 0;
            if (areOff && lead + green.pullOfSet(set) > 0) {
                best.offer(set, -Integer.bitCount(set));
            }
        }
        return bestOrNone();
    }

    public int traitor(int n) {
        if (!isWithin(n, 1, DAYS_WEIGHED)) {
            return finding(BEYOND);
        }
        trial.become(green);
        trial.go(n);
        int otherwise = trial.knot;
        best.clear();
        for (int person = 0; person < green.size; person++) {
            trial.become(green);
            trial.people[person].side = 1 - green.people[person].side;
            trial.go(n);
            best.offer(person, Math.abs(trial.knot - otherwise));
        }
        return bestOrNone();
    }

    // ---- the text

    public int feed(int bytes, int n) {
        if (!isWithin(n, 1, 4)) {
            return finding(BEYOND);
        }
        if (tape.size + n > MOST_BYTES) {
            return finding(FULL);
        }
        for (int left = n - 1; left >= 0; left--) {
            tape.add(bytes >>> (8 * left) & 255);
        }
        return tape.size;
    }

    public int wipe() {
        int had = tape.size;
        tape.size = 0;
        return had;
    }

    public int green() {
        // The items come to the trial first, since a fault may yet undo them all.
        trial.become(green);
        int items = tape.tell(trial);
        tape.size = 0;
        if (items >= 0) {
            green.become(trial);
        }
        return items;
    }

    // ---- sheets

    public int sheet(int s, int bits, int n) {
        boolean areBits = bits == 0 || bits == 8 || bits == 16 || bits == 64;
        if (!isSheet(s) || !areBits) {
            return finding(BEYOND);
        }
        if (n < 0) {
            return finding(SIZE);
        }
        if (n > MOST_NUMBERS) {
            return finding(BEYOND);
        }
        sheets[s].begin(bits, n);
        return sheets[s].size;
    }

    public long write(int s, int i, long v) {
        if (!isSheet(s)) {
            return finding(BEYOND);
        }
        Sheet sheet = sheets[s];
        if (sheet.isMissing()) {
            return finding(MISSING);
        }
        if (i < 0 || i >= sheet.size) {
            return finding(BEYOND);
        }
        long was = sheet.numbers[i];
        sheet.put(i, v);
        return was;
    }

    public int copy(int s, int from, int t, int to, int n) {
        if (!isSheet(s) || !isSheet(t)) {
            return finding(BEYOND);
        }
        Sheet source = sheets[s];
        Sheet target = sheets[t];
        if (source.isMissing() || target.isMissing()) {
            return finding(MISSING);
        }
        if (source.bits != target.bits) {
            return finding(KIND);
        }
        if (!source.holds(from, n) || !target.holds(to, n)) {
            return finding(BEYOND);
        }
        System.arraycopy(source.numbers, from, target.numbers, to, n);
        return n;
    }

    public int lays(int s) {
        if (!isSheet(s)) {
            return finding(BEYOND);
        }
        Sheet sheet = sheets[s];
        if (sheet.isMissing()) {
            return finding(MISSING);
        }
        int came = 0;
        for (int i = 0; i < sheet.size && i < green.size; i++) {
            long strong = sheet.numbers[i];
            if (strong >= 1 && strong <= MOST_STRONG) {
                green.people[i].strong = (int) strong;
                came++;
            }
        }
        return came;
    }

    public int book(int s) {
        if (!isSheet(s)) {
            return finding(BEYOND);
        }
        Sheet sheet = sheets[s];
        if (sheet.isMissing()) {
            return finding(MISSING);
        }
        trial.become(green);
        for (int i = 0; i < sheet.size; i++) {
            sheet.put(i, trial.knot);
            trial.goDay();
        }
        return sheet.size;
    }

    public int read(int s, int person) {
        if (!isSheet(s)) {
            return finding(BEYOND);
        }
        Sheet sheet = sheets[s];
        if (sheet.isMissing()) {
            return finding(MISSING);
        }
        if (!green.has(person)) {
            return finding(BEYOND);
        }
        int pairs = 0;
        for (int kind = 0; kind < KINDS; kind++) {
            for (int strong = 1; strong <= MOST_STRONG; strong++) {
                trial.become(green);
                trial.people[person].kind = trial.kinds[kind];
                trial.people[person].strong = strong;
                if (trial.goesAs(sheet)) {
                    pairs++;
                }
            }
        }
        return pairs;
    }

    // ---- images

    public int image() {
        kept.become(green);
        isKept = true;
        return 1;
    }

    public int undo() {
        if (!isKept) {
            return finding(NONE);
        }
        green.become(kept);
        return green.size;
    }

    public int tear() {
        int was = isKept ? 1 : 0;
        isKept = false;
        return was;
    }

    public int count(int what) {
        switch (what) {
            case 0:
                return green.size;
            case 1:
                return tape.size;
            case 2:
                return green.sizeOf(PUB);
            case 3:
                return green.tiredTogether();
            default:
                return finding(BEYOND);
        }
    }

    public int status(int which) {
        if (!isWithin(which, -1, FINDINGS - 1)) {
            return finding(BEYOND);
        }
        if (which >= 0) {
            return found[which];
        }
        int all = 0;
        for (int i = 0; i < FINDINGS; i++) {
            all += found[i];
        }
        return all;
    }

    // ---- what the calls share

    private int finding(int answer) {
        int which = BEYOND - answer;
        if (which >= 0 && which < FINDINGS) {
            found[which]++;
        }
        return answer;
    }

    private int bestOrNone() {
        return best.isAny ? best.which : finding(NONE);
    }

    private static boolean isWithin(int v, int least, int most) {
        return v >= least && v <= most;
    }

    private static boolean isKind(int kind) {
        return isWithin(kind, 0, KINDS - 1);
    }

    private static boolean isSide(int side) {
        return side == PUB || side == CHAPEL;
    }

    private static boolean isSheet(int s) {
        return isWithin(s, 0, SHEETS - 1);
    }

    // ---- the kinds, each under the one that it is like

    private static class Man {
        final int number;

        Man(int number) {
            this.number = number;
        }

        boolean isOf(int kind) {
            return kind == MAN;
        }

        int pull(Person one, Green green) {
            int left = one.strong - one.tired / 10;
            return left > 0 ? left : 0;
        }

        int tire(Green green) {
            return 4;
        }

        boolean letsGo(Person one, Green green) {
            return one.tired >= 90;
        }
    }

    private static class Son extends Man {
        Son(int number) {
            super(number);
        }

        boolean isOf(int kind) {
            return kind == SON || super.isOf(kind);
        }

        int pull(Person one, Green green) {
            return super.pull(one, green) + 2;
        }

        int tire(Green green) {
            return super.tire(green) - 1;
        }

        boolean letsGo(Person one, Green green) {
            return one.tired >= 95;
        }
    }

    private static class Drinker extends Man {
        Drinker(int number) {
            super(number);
        }

        boolean isOf(int kind) {
            return kind == DRINKER || super.isOf(kind);
        }

        int pull(Person one, Green green) {
            return green.isSunday() ? 1 : super.pull(one, green);
        }

        int tire(Green green) {
            return green.isSunday() ? super.tire(green) + 3 : super.tire(green);
        }

        boolean letsGo(Person one, Green green) {
            return green.isSunday() || super.letsGo(one, green);
        }
    }

    private static final class Woman extends Man {
        Woman(int number) {
            super(number);
        }

        boolean isOf(int kind) {
            return kind == WOMAN || super.isOf(kind);
        }

        int pull(Person one, Green green) {
            return green.isHarvest() ? super.pull(one, green) + 4 : super.pull(one, green);
        }

        int tire(Green green) {
            return 2;
        }

        boolean letsGo(Person one, Green green) {
            return super.letsGo(one, green) || one.tired >= 30 && !green.isHarvest();
        }
    }

    private static final class Preacher extends Son {
        Preacher(int number) {
            super(number);
        }

        boolean isOf(int kind) {
            return kind == PREACHER || super.isOf(kind);
        }

        int pull(Person one, Green green) {
            return green.isSunday() ? 2 * super.pull(one, green) : super.pull(one, green);
        }

        int tire(Green green) {
            return green.isSunday() ? 0 : super.tire(green);
        }
    }

    private static final class Stranger extends Drinker {
        Stranger(int number) {
            super(number);
        }

        boolean isOf(int kind) {
            return kind == STRANGER || super.isOf(kind);
        }

        int pull(Person one, Green green) {
            return green.towards(one.side) > 0 ? 0 : super.pull(one, green);
        }

        int tire(Green green) {
            return super.tire(green) - 2;
        }

        boolean letsGo(Person one, Green green) {
            return one.tired >= 20 && green.towards(one.side) <= 0 || super.letsGo(one, green);
        }
    }

    private static final class Person {
        Man kind;
        int side;
        int on;
        int tired;
        int strong;

        Person(Man kind) {
            this.kind = kind;
        }

        void become(Person other) {
            kind = other.kind;
            side = other.side;
            on = other.on;
            tired = other.tired;
            strong = other.strong;
        }

        void spendDay(Green green) {
            if (on == 0) {
                tired = tired > RESTS ? tired - RESTS : 0;
                return;
            }
            int more = tired + kind.tire(green);
            tired = more < MOST_TIRED ? more : MOST_TIRED;
            if (kind.letsGo(this, green)) {
                on = 0;
            }
        }
    }

    /** All that an image keeps: the day, the harvest, the rope and the people. */
    private static final class Green {
        int day;
        int harvest = 1 << 5;
        int knot;
        int slack = 3;
        int size;
        final Man[] kinds = new Man[KINDS];
        final Person[] people = new Person[MOST_PEOPLE];

        Green() {
            Man man = new Man(MAN);
            kinds[MAN] = man;
            kinds[SON] = new Son(SON);
            kinds[DRINKER] = new Drinker(DRINKER);
            kinds[WOMAN] = new Woman(WOMAN);
            kinds[PREACHER] = new Preacher(PREACHER);
            kinds[STRANGER] = new Stranger(STRANGER);
            for (int i = 0; i < MOST_PEOPLE; i++) {
                people[i] = new Person(man);
            }
        }

        void become(Green other) {
            day = other.day;
            harvest = other.harvest;
            knot = other.knot;
            slack = other.slack;
            size = other.size;
            for (int i = 0; i < size; i++) {
                people[i].become(other.people[i]);
            }
        }

        boolean has(int person) {
            return person >= 0 && person < size;
        }

        boolean isFull() {
            return size >= MOST_PEOPLE;
        }

        void addOne(int kind, int side) {
            if (isFull() || !isKind(kind)) {
                return;
            }
            Person one = people[size];
            one.kind = kinds[kind];
            one.side = side;
            one.on = 0;
            one.tired = 0;
            one.strong = FIRST_STRONG;
            size++;
        }

        int weekOfYear() {
            return day / 7 % WEEKS;
        }

        boolean isHarvest() {
            return (harvest >> weekOfYear() & 1) == 1;
        }

        boolean isSunday() {
            return day % 7 == 6;
        }

        int towards(int side) {
            return side == CHAPEL ? knot : -knot;
        }

        int sideAhead() {
            if (knot == 0) {
                return -1;
            }
            return knot < 0 ? PUB : CHAPEL;
        }

        int setOn() {
            int set = 0;
            for (int i = 0; i < size; i++) {
                set |= people[i].on << i;
            }
            return set;
        }

        int setOff(int side) {
            int set = 0;
            for (int i = 0; i < size; i++) {
                if (people[i].side == side && people[i].on == 0) {
                    set |= 1 << i;
                }
            }
            return set;
        }

        int pullOf(int side) {
            int together = 0;
            for (int i = 0; i < size; i++) {
                Person one = people[i];
                if (one.on == 1 && one.side == side) {
                    together += one.kind.pull(one, this);
                }
            }
            return together;
        }

        int pullOfSet(int set) {
            int together = 0;
            for (int i = 0; i < size; i++) {
                if ((set >> i & 1) == 1) {
                    together += people[i].kind.pull(people[i], this);
                }
            }
            return together;
        }

        int sizeOf(int side) {
            int n = 0;
            for (int i = 0; i < size; i++) {
                if (people[i].side == side) {
                    n++;
                }
            }
            return n;
        }

        int tiredTogether() {
            int together = 0;
            for (int i = 0; i < size; i++) {
                together += people[i].tired;
            }
            return together;
        }

        boolean canSwap(int fresh, int weary) {
            if (!has(fresh) || !has(weary)) {
                return false;
            }
            Person comes = people[fresh];
            Person goes = people[weary];
            return comes.on == 0 && goes.on == 1 && comes.side == goes.side;
        }

        void swap(int fresh, int weary) {
            if (canSwap(fresh, weary)) {
                people[fresh].on = 1;
                people[weary].on = 0;
            }
        }

        void go(int n) {
            for (int i = 0; i < n; i++) {
                goDay();
            }
        }

        void goDay() {
            moveKnot(leadOfChapel());
            boolean pubHolds = false;
            boolean chapelHolds = false;
            for (int i = 0; i < size; i++) {
                Person one = people[i];
                one.spendDay(this);
                if (one.on == 1 && one.side == PUB) {
                    pubHolds = true;
                } else if (one.on == 1) {
                    chapelHolds = true;
                }
            }
            if (!pubHolds) {
                callOut(PUB);
            }
            if (!chapelHolds) {
                callOut(CHAPEL);
            }
            day++;
        }

        /** In one go over the people, as this is asked of every day that is tried. */
        private int leadOfChapel() {
            int lead = 0;
            for (int i = 0; i < size; i++) {
                Person one = people[i];
                if (one.on == 1) {
                    int pull = one.kind.pull(one, this);
                    lead += one.side == CHAPEL ? pull : -pull;
                }
            }
            return lead;
        }

        private void moveKnot(int more) {
            if (more > slack) {
                knot = Math.min(FARTHEST, knot + more - slack);
            } else if (-more > slack) {
                knot = Math.max(-FARTHEST, knot + more + slack);
            }
        }

        /** For a side that has nobody on. */
        private void callOut(int side) {
            Person least = null;
            for (int i = 0; i < size; i++) {
                Person one = people[i];
                if (one.side == side && (least == null || one.tired < least.tired)) {
                    least = one;
                }
            }
            if (least != null) {
                least.on = 1;
            }
        }

        boolean goesAs(Sheet sheet) {
            for (int i = 0; i < sheet.size; i++) {
                if (sheet.numbers[i] != knot) {
                    return false;
                }
                goDay();
            }
            return true;
        }
    }

    /** The first of those offered that is worth most. */
    private static final class Best {
        boolean isAny;
        int which;
        int worth;

        void clear() {
            isAny = false;
            which = 0;
            worth = 0;
        }

        void offer(int candidate, int candidateWorth) {
            if (!isAny || candidateWorth > worth) {
                isAny = true;
                which = candidate;
                worth = candidateWorth;
            }
        }
    }

    /** A row of numbers; each is held with its sign, as bits alone let it be. */
    private static final class Sheet {
        int bits;
        int size;
        final long[] numbers = new long[MOST_NUMBERS];

        boolean isMissing() {
            return bits == 0;
        }

        void begin(int newBits, int n) {
            bits = newBits;
            size = newBits == 0 ? 0 : n;
            Arrays.fill(numbers, 0L);
        }

        boolean holds(int from, int n) {
            return from >= 0 && n >= 0 && n <= size && from <= size - n;
        }

        void put(int i, long v) {
            if (i < 0 || i >= size) {
                return;
            }
            if (bits == 8) {
                numbers[i] = (byte) v;
            } else if (bits == 16) {
                numbers[i] = (short) v;
            } else {
                numbers[i] = v;
            }
        }
    }

    /** THE TAPE, and the reading of it, one token at a time. */
    private static final class Tape {
        private static final int END = 0;
        private static final int WORD = 1;
        private static final int NUMBER = 2;
        private static final int SIGN = 3;
        private static final int NO_TOKEN = 4;

        private final int[] bytes = new int[MOST_BYTES];
        int size;
        /** The token that is looked at: what it is, where it begins, where it ends. */
        private int sort;
        private int start;
        private int end;
        /** The number that was taken last. */
        private int taken;

        void add(int oneByte) {
            if (size < MOST_BYTES) {
                bytes[size] = oneByte;
                size++;
            }
        }

        /** How many items came to a green, or -1 less the place of the fault. */
        int tell(Green green) {
            end = 0;
            lookAtNext();
            // An item has one byte at least, so there are no more items than bytes.
            for (int items = 1; items <= MOST_BYTES; items++) {
                if (!takeItem(green)) {
                    break;
                }
                if (sort == END) {
                    return items;
                }
                if (sort != SIGN) {
                    break;
                }
                lookAtNext();
            }
            return -1 - start;
        }

        private boolean takeItem(Green green) {
            int kind = kindNamed();
            if (kind >= 0) {
                return takePerson(green, kind);
            }
            if (takeWord("harvest")) {
                return takeWeek(green, 1);
            }
            if (takeWord("plain")) {
                return takeWeek(green, 0);
            }
            if (takeWord("knot")) {
                return takeKnot(green);
            }
            return takeWord("slack") && takeSlack(green);
        }

        private boolean takePerson(Green green, int kind) {
            if (green.isFull()) {
                return false;
            }
            lookAtNext();
            int side = takeSide();
            if (side < 0) {
                return false;
            }
            Person one = green.people[green.size];
            green.addOne(kind, side);
            if (takeWord("strong")) {
                if (!takeNumber(1, MOST_STRONG)) {
                    return false;
                }
                one.strong = taken;
            }
            if (takeWord("tired")) {
                if (!takeNumber(0, MOST_TIRED)) {
                    return false;
                }
                one.tired = taken;
            }
            if (takeWord("on")) {
                one.on = 1;
            }
            return true;
        }

        private boolean takeWeek(Green green, int isHarvest) {
            if (!takeNumber(0, WEEKS - 1)) {
                return false;
            }
            green.harvest = green.harvest & ~(1 << taken) | isHarvest << taken;
            return true;
        }

        private boolean takeKnot(Green green) {
            int side = takeSide();
            if (side < 0 || !takeNumber(0, FARTHEST)) {
                return false;
            }
            green.knot = side == CHAPEL ? taken : -taken;
            return true;
        }

        private boolean takeSlack(Green green) {
            if (!takeNumber(0, MOST_SLACK)) {
                return false;
            }
            green.slack = taken;
            return true;
        }

        private int takeSide() {
            int side = -1;
            if (isWord("pub")) {
                side = PUB;
            } else if (isWord("chapel")) {
                side = CHAPEL;
            }
            if (side >= 0) {
                lookAtNext();
            }
            return side;
        }

        private boolean takeWord(String word) {
            if (!isWord(word)) {
                return false;
            }
            lookAtNext();
            return true;
        }

        private boolean takeNumber(int least, int most) {
            if (sort != NUMBER) {
                return false;
            }
            int v = 0;
            for (int i = start; i < end && i < MOST_BYTES; i++) {
                // Above all that may be, more digits need no counting (and could wrap around).
                if (v <= FARTHEST) {
                    v = 10 * v + bytes[i] - '0';
                }
            }
            if (v < least || v > most) {
                return false;
            }
            taken = v;
            lookAtNext();
            return true;
        }

        private int kindNamed() {
            if (isWord("man")) {
                return MAN;
            }
            if (isWord("son")) {
                return SON;
            }
            if (isWord("drinker")) {
                return DRINKER;
            }
            if (isWord("woman")) {
                return WOMAN;
            }
            if (isWord("preacher")) {
                return PREACHER;
            }
            return isWord("stranger") ? STRANGER : -1;
        }

        private boolean isWord(String word) {
            if (sort != WORD || end - start != word.length()) {
                return false;
            }
            for (int i = 0; i < word.length() && start + i < MOST_BYTES; i++) {
                if (bytes[start + i] != word.charAt(i)) {
                    return false;
                }
            }
            return true;
        }

        private void lookAtNext() {
            start = end;
            while (start < size && bytes[start] == ' ') {
                start++;
            }
            end = start;
            if (start >= size) {
                sort = END;
                return;
            }
            sort = sortOf(bytes[start]);
            end++;
            if (sort == WORD || sort == NUMBER) {
                while (end < size && sortOf(bytes[end]) == sort) {
                    end++;
                }
            }
        }

        private static int sortOf(int oneByte) {
            if (oneByte >= 'a' && oneByte <= 'z') {
                return WORD;
            }
            if (oneByte >= '0' && oneByte <= '9') {
                return NUMBER;
            }
            return oneByte == ';' ? SIGN : NO_TOKEN;
        }
    }
}
