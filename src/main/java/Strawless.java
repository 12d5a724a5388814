import java.util.Arrays;

/** Bricks without straw: a gang that must make so many bricks a day and find its own straw. */
public final class Strawless {
    public static final int UNKNOWN = -1, BAD = -2, LATE = -3, FULL = -4, NONE = -9;

    private static final int MOST_BYTES = 40, HIGHEST_BYTE = 255;
    private static final int MOST_HANDS = 5, MOST_FIELDS = 3;
    private static final int STRONG = 1, SLOW = 2, CHILD = 3;
    private static final int RESTING = 0, MOULDING = 1, FIRST_FIELD = 2;
    private static final int MOST_MOULDED = 9, MOST_TURNED = 9;
    private static final int MOST_COURSES = 8, BRICKS_A_COURSE = 2;
    private static final int HOLLOW = 0, SOUND = 1, NOT_THERE = 2;
    private static final int MOST_RAINS = 3, MOST_SEEN = 6;
    private static final int MOST_ACTS = 14, SLOTS = 2;
    private static final int MOST_LASTING = 9;
    private static final int MOST_ASKED = 9;
    private static final int MOST_CHANCE_DAYS = 6, TENTHS = 10;
    private static final int MOST_YEARS = 20, SEED_PAIRS = 30, SEED_TASKS = 6, UPPER_31 = 33;
    private static final long SEED_FACTOR = 6364136223846793005L, SEED_STEP = 1442695040888963407L;
    private static final int MOST_DIVISIONS = 64;
    private static final int[] FACTORIALS = {1, 1, 2, 6, 24, 120};

    private final Text text;
    private final Gang gang;
    private final State now;
    private final State trial;
    private final Work work;
    private final Plans plans;
    private final Acts acts;
    private final Slots slots;
    private final Sights sights;
    private long theSeed;

    public Strawless() {
        text = new Text();
        gang = new Gang();
        now = new State();
        trial = new State();
        work = new Work();
        plans = new Plans();
        acts = new Acts();
        slots = new Slots();
        sights = new Sights();
    }

    // ---- the pit

    public int write(int letter) {
        if (letter < 0 || letter > HIGHEST_BYTE) {
            return BAD;
        }
        return text.append(letter) ? text.length : FULL;
    }

    public int wipe() {
        int was = text.length;
        text.length = 0;
        return was;
    }

    public int fault() {
        return text.firstFault();
    }

    public int pit() {
        if (text.firstFault() != NONE) {
            return LATE;
        }
        gang.readFrom(text);
        now.beginAnew(gang);
        acts.forgetAll();
        slots.forgetAll();
        return 10 * gang.hands + gang.fields;
    }

    public int about(int what) {
        switch (what) {
            case 0: return gang.hands;
            case 1: return gang.fields;
            case 2: return gang.count;
            case 3: return now.straw;
            case 4: return now.sound;
            case 5: return now.hollow;
            case 6: return now.turned;
            case 7: return Wall.heightOf(now.wall);
            case 8: return Wall.soundOf(now.wall);
            case 9: return now.blows;
            case 10: return now.days;
            case 11: return acts.size;
            case 12: return sights.size;
            case 13: return text.length;
            default: return BAD;
        }
    }

    public int hand(int hand, int what) {
        if (!gang.hasHand(hand)) {
            return UNKNOWN;
        }
        switch (what) {
            case 0: return gang.strength[hand];
            case 1: return gang.kind[hand];
            case 2: return now.tasks[hand];
            case 3: return gang.moulds(hand);
            default: return BAD;
        }
    }

    public int field(int field, int what) {
        if (!gang.hasField(field)) {
            return UNKNOWN;
        }
        switch (what) {
            case 0: return gang.far[field];
            case 1: return now.straws[field];
            default: return BAD;
        }
    }

    // ---- acts

    public int day() {
        acts.remember(now);
        work.reckon(gang, now, now.tasks);
        now.endDay(gang, work);
        return work.moulded;
    }

    public int send(int hand, int task) {
        if (!gang.hasHand(hand)) {
            return UNKNOWN;
        }
        if (!gang.hasTask(task)) {
            return BAD;
        }
        int had = now.tasks[hand];
        if (had == task) {
            return LATE;
        }
        acts.remember(now);
        now.tasks[hand] = task;
        return had;
    }

    public int turn(int n) {
        if (n < 1 || n > MOST_TURNED) {
            return BAD;
        }
        if (now.turned + n > now.sound + now.hollow) {
            return LATE;
        }
        acts.remember(now);
        now.turned += n;
        return now.turned;
    }

    public int lay(int sound) {
        if (sound != HOLLOW && sound != SOUND) {
            return BAD;
        }
        if (Wall.heightOf(now.wall) >= MOST_COURSES) {
            return FULL;
        }
        if (now.bricks(sound) < BRICKS_A_COURSE) {
            return LATE;
        }
        acts.remember(now);
        now.layCourse(sound);
        return Wall.heightOf(now.wall);
    }

    public int rain() {
        acts.remember(now);
        now.wall = Wall.behindRain(now.wall);
        return Wall.heightOf(now.wall);
    }

    public int undo() {
        if (acts.size == 0) {
            return LATE;
        }
        acts.takeBack(now);
        return acts.size;
    }

    // ---- plans

    public int makes(int plan, int what) {
        if (!plans.readFigures(gang, plan) || what < 0 || what > 1) {
            return BAD;
        }
        work.reckon(gang, now, plans.tasks);
        return what == 0 ? work.moulded : work.sound;
    }

    public int best(int what) {
        if (what < 0 || what > 1) {
            return BAD;
        }
        plans.weighAll(gang, now, work);
        return what == 0 ? plans.bestPlan : plans.bestSound;
    }

    public int least() {
        plans.weighAll(gang, now, work);
        return plans.fewestBusy;
    }

    public int ask() {
        plans.weighAll(gang, now, work);
        return plans.mostAllSound;
    }

    public int lasts() {
        State.copy(now, trial);
        for (int days = 0; days < MOST_LASTING; days++) {
            work.reckon(gang, trial, trial.tasks);
            if (work.sound < gang.count) {
                return days;
            }
            trial.endDay(gang, work);
        }
        return MOST_LASTING;
    }

    public int spare(int n, int r, int looks, int what) {
        if (!isWallHeight(n) || !isRains(r) || looks < 0 || looks >= 1 << n || what < 0 || what > 1) {
            return BAD;
        }
        int fewest = NONE;
        int first = NONE;
        for (int set = 0; set < 1 << n; set++) {
            int after = Wall.behindRains(Wall.of(n, set), r);
            boolean stands = (Wall.soundOf(after) & looks) == looks;
            if (stands && (fewest == NONE || Integer.bitCount(set) < fewest)) {
                fewest = Integer.bitCount(set);
                first = set;
            }
        }
        return what == 0 ? fewest : first;
    }

    public int share(int hand, boolean upper) {
        if (!gang.hasHand(hand)) {
            return UNKNOWN;
        }
        int more = 0;
        for (int come = 0; come < 1 << gang.hands; come++) {
            if (((come >> hand) & 1) == 0) {
                int gain = soundOfComers(come | (1 << hand)) - soundOfComers(come);
                more += gain * ordersBehind(Integer.bitCount(come));
            }
        }
        return fraction(more, factorial(gang.hands), upper);
    }

    // ---- seen

    public int see(int r, int course, int how) {
        if (!isRains(r) || course < 0 || course >= MOST_COURSES || how < HOLLOW || how > NOT_THERE) {
            return BAD;
        }
        return sights.add(r, course, how) ? sights.size : FULL;
    }

    public int unsee() {
        int was = sights.size;
        sights.size = 0;
        return was;
    }

    public int courses(int n, int what) {
        if (!isWallHeight(n) || what < 0 || what > 2) {
            return BAD;
        }
        int every = (1 << n) - 1;
        int many = 0;
        int soundInAll = every;
        int hollowInAll = every;
        for (int set = 0; set <= every; set++) {
            if (sights.agreeWith(Wall.of(n, set))) {
                many++;
                soundInAll &= set;
                hollowInAll &= ~set;
            }
        }
        if (what == 0) {
            return many;
        }
        if (many == 0) {
            return NONE;
        }
        return what == 1 ? soundInAll : hollowInAll;
    }

    // ---- rests, chances

    public int rests(int what) {
        if (what < 0 || what > 1) {
            return BAD;
        }
        work.reckon(gang, now, now.tasks);
        int most = Math.min(work.moulded, MOST_ASKED);
        int many = 0;
        int first = NONE;
        for (int asked = 0; asked <= MOST_ASKED; asked++) {
            for (int made = 0; made <= most; made++) {
                if (overseerRests(asked, made) && foremanRests(asked, made, most)) {
                    many++;
                    first = first == NONE ? 10 * asked + made : first;
                }
            }
        }
        return what == 0 ? many : first;
    }

    public int chance(int n, int h, int x, boolean upper) {
        if (n < 1 || n > MOST_CHANCE_DAYS || h < 0 || h > MOST_COURSES || x < 0 || x > TENTHS) {
            return BAD;
        }
        int height = Wall.heightOf(now.wall);
        int hollow = height - Integer.bitCount(Wall.soundOf(now.wall));
        int ways = 0;
        int choices = 1;
        for (int rains = 0; rains <= n; rains++) {
            if (height - Math.min(rains, hollow) >= h) {
                ways += choices * power(x, rains) * power(TENTHS - x, n - rains);
            }
            choices = choices * (n - rains) / (rains + 1);
        }
        return fraction(ways, power(TENTHS, n), upper);
    }

    public long seed(long v) {
        long was = theSeed;
        theSeed = v;
        return was;
    }

    public int years(int m) {
        if (m < 1 || m > MOST_YEARS) {
            return BAD;
        }
        State.copy(now, trial);
        for (int year = 0; year < m; year++) {
            theSeed = theSeed * SEED_FACTOR + SEED_STEP;
            int pair = (int) ((theSeed >>> UPPER_31) % SEED_PAIRS);
            int hand = pair / SEED_TASKS;
            int task = pair % SEED_TASKS;
            if (gang.hasHand(hand) && gang.hasTask(task)) {
                trial.tasks[hand] = task;
            }
            work.reckon(gang, trial, trial.tasks);
            trial.endDay(gang, work);
        }
        return trial.blows - now.blows;
    }

    // ---- slots

    public int keep(int slot) {
        if (!slots.has(slot)) {
            return UNKNOWN;
        }
        slots.store(slot, now);
        return now.days;
    }

    public int again(int slot) {
        if (!slots.has(slot)) {
            return UNKNOWN;
        }
        if (!slots.used[slot]) {
            return LATE;
        }
        slots.bringBack(slot, now);
        acts.forgetAll();
        return now.days;
    }

    // ---- helpers

    private static boolean isWallHeight(int n) {
        return n >= 1 && n <= MOST_COURSES;
    }

    private static boolean isRains(int r) {
        return r >= 0 && r <= MOST_RAINS;
    }

    /** The SOUND bricks of a DAY for which only the HANDS in the set have come. */
    private int soundOfComers(int come) {
        for (int hand = 0; hand < MOST_HANDS; hand++) {
            plans.tasks[hand] = ((come >> hand) & 1) == 1 ? now.tasks[hand] : RESTING;
        }
        work.reckon(gang, now, plans.tasks);
        return work.sound;
    }

    /** The orders of all HANDS in which one HAND comes right behind a given set of so many. */
    private int ordersBehind(int before) {
        return factorial(before) * factorial(gang.hands - 1 - before);
    }

    private static int factorial(int n) {
        return n >= 0 && n < FACTORIALS.length ? FACTORIALS[n] : 0;
    }

    private static boolean overseerRests(int asked, int made) {
        for (int other = 0; other <= MOST_ASKED; other++) {
            if (overseerHas(other, made) > overseerHas(asked, made)) {
                return false;
            }
        }
        return true;
    }

    private static boolean foremanRests(int asked, int made, int most) {
        for (int other = 0; other <= most; other++) {
            if (foremanHas(asked, other) > foremanHas(asked, made)) {
                return false;
            }
        }
        return true;
    }

    private static int overseerHas(int asked, int made) {
        return asked + made - 3 * Math.max(0, asked - made);
    }

    private static int foremanHas(int asked, int made) {
        return 9 - made - 2 * Math.max(0, asked - made);
    }

    private static int power(int base, int exponent) {
        int product = 1;
        for (int n = 0; n < exponent; n++) {
            product *= base;
        }
        return product;
    }

    /** The upper or the lower number of above / below in least terms. */
    private static int fraction(int above, int below, boolean upper) {
        int chosen = upper ? above : below;
        int divisor = commonDivisor(Math.abs(above), below);
        return divisor == 0 ? chosen : chosen / divisor;
    }

    private static int commonDivisor(int a, int b) {
        int divisor = a;
        int rest = b;
        // Euclid's row for numbers of 32 bits is shorter than 64
        for (int step = 0; step < MOST_DIVISIONS && rest != 0; step++) {
            int next = divisor % rest;
            divisor = rest;
            rest = next;
        }
        return divisor;
    }

    /** THE TEXT, and whether it is a PIT. */
    private static final class Text {
        final int[] bytes = new int[MOST_BYTES];
        int length;

        boolean append(int letter) {
            if (length >= MOST_BYTES) {
                return false;
            }
            bytes[length] = letter;
            length++;
            return true;
        }

        int firstFault() {
            for (int at = 0; at < length; at++) {
                if (!fits(at)) {
                    return at;
                }
            }
            boolean whole = length >= 2 && (length - 2) % 3 == 0;
            return whole ? NONE : length;
        }

        /** Whether a byte fits behind those before it, which fit themselves. */
        private boolean fits(int at) {
            if (at == 0) {
                return letter(at) == 'B';
            }
            if (at == 1) {
                return isFigure(at, 0, 9);
            }
            switch ((at - 2) % 3) {
                case 0: return beginsPart(at);
                case 1: return letter(at - 1) == 'H' ? isFigure(at, 1, 4) : isFigure(at, 0, 3);
                default: return letter(at - 2) == 'H' ? isFigure(at, 0, 3) : isFigure(at, 0, 9);
            }
        }

        private boolean beginsPart(int at) {
            if (letter(at) == 'H') {
                return partsBefore(at, 'H') < MOST_HANDS;
            }
            return letter(at) == 'F' && partsBefore(at, 'F') < MOST_FIELDS;
        }

        private int partsBefore(int end, char kind) {
            int many = 0;
            for (int at = 2; at < end; at += 3) {
                if (letter(at) == kind) {
                    many++;
                }
            }
            return many;
        }

        private boolean isFigure(int at, int lowest, int highest) {
            return figure(at) >= lowest && figure(at) <= highest;
        }

        int figure(int at) {
            return letter(at) - '0';
        }

        int letter(int at) {
            return at >= 0 && at < length ? bytes[at] : 0;
        }
    }

    /** What THE PIT tells and no ACT changes. */
    private static final class Gang {
        final int[] strength = new int[MOST_HANDS];
        final int[] kind = new int[MOST_HANDS];
        final int[] far = new int[MOST_FIELDS];
        final int[] strawsAtFirst = new int[MOST_FIELDS];
        int hands;
        int fields;
        int count;

        void readFrom(Text text) {
            hands = 0;
            fields = 0;
            count = text.figure(1);
            for (int at = 2; at < text.length; at += 3) {
                if (text.letter(at) == 'H') {
                    addHand(text.figure(at + 1), text.figure(at + 2));
                } else {
                    addField(text.figure(at + 1), text.figure(at + 2));
                }
            }
        }

        private void addHand(int itsStrength, int itsKind) {
            if (hands < MOST_HANDS) {
                strength[hands] = itsStrength;
                kind[hands] = itsKind;
                hands++;
            }
        }

        private void addField(int howFar, int straws) {
            if (fields < MOST_FIELDS) {
                far[fields] = howFar;
                strawsAtFirst[fields] = straws;
                fields++;
            }
        }

        boolean hasHand(int hand) {
            return hand >= 0 && hand < hands;
        }

        boolean hasField(int field) {
            return field >= 0 && field < fields;
        }

        boolean hasTask(int task) {
            return task == RESTING || task == MOULDING || hasField(task - FIRST_FIELD);
        }

        int moulds(int hand) {
            if (!hasHand(hand)) {
                return 0;
            }
            switch (kind[hand]) {
                case STRONG: return strength[hand] + 2;
                case SLOW: return strength[hand] - 1;
                case CHILD: return 0;
                default: return strength[hand];
            }
        }

        /** What a HAND could gather in a FIELD that has straws enough. */
        int gathers(int hand, int field) {
            if (!hasHand(hand) || !hasField(field)) {
                return 0;
            }
            int lost = kind[hand] == SLOW ? 1 : 0;
            return Math.max(0, strength[hand] - far[field] - lost);
        }
    }

    /** A WALL is one number: its courses are bits (1 is SOUND), and a 1 above them tells its height. */
    private static final class Wall {
        static final int EMPTY = 1;

        static int of(int height, int sound) {
            return (1 << height) | sound;
        }

        static int heightOf(int wall) {
            int height = MOST_COURSES;
            while (height > 0 && wall >> height == 0) {
                height--;
            }
            return height;
        }

        static int soundOf(int wall) {
            return wall - (1 << heightOf(wall));
        }

        static int withCourse(int wall, int sound) {
            int height = heightOf(wall);
            return of(height + 1, soundOf(wall) | (sound << height));
        }

        static int behindRain(int wall) {
            // the 1 that tells the height comes down with what is above
            int lowestHollow = ~wall & (wall + 1);
            if (lowestHollow > wall) {
                return wall;
            }
            int below = wall & (lowestHollow - 1);
            int above = wall & -lowestHollow;
            return (above >> 1) | below;
        }

        static int behindRains(int wall, int rains) {
            int left = wall;
            for (int n = 0; n < rains; n++) {
                left = behindRain(left);
            }
            return left;
        }

        static int courseAt(int wall, int course) {
            return course >= heightOf(wall) ? NOT_THERE : (wall >> course) & 1;
        }
    }

    /** All that ACTS change and SLOTS keep. */
    private static final class State {
        final int[] tasks = new int[MOST_HANDS];
        final int[] straws = new int[MOST_FIELDS];
        int straw;
        int sound;
        int hollow;
        int turned;
        int wall = Wall.EMPTY;
        int blows;
        int days;

        void beginAnew(Gang gang) {
            Arrays.fill(tasks, RESTING);
            System.arraycopy(gang.strawsAtFirst, 0, straws, 0, MOST_FIELDS);
            straw = 0;
            sound = 0;
            hollow = 0;
            turned = 0;
            wall = Wall.EMPTY;
            blows = 0;
            days = 0;
        }

        static void copy(State from, State to) {
            if (from == null || to == null) {
                return;
            }
            System.arraycopy(from.tasks, 0, to.tasks, 0, MOST_HANDS);
            System.arraycopy(from.straws, 0, to.straws, 0, MOST_FIELDS);
            to.straw = from.straw;
            to.sound = from.sound;
            to.hollow = from.hollow;
            to.turned = from.turned;
            to.wall = from.wall;
            to.blows = from.blows;
            to.days = from.days;
        }

        void endDay(Gang gang, Work work) {
            System.arraycopy(work.straws, 0, straws, 0, MOST_FIELDS);
            straw = work.straw;
            sound += work.sound;
            hollow += work.moulded - work.sound;
            blows += Math.max(0, gang.count - work.moulded - turned);
            turned = 0;
            days++;
        }

        int bricks(int kind) {
            return kind == SOUND ? sound : hollow;
        }

        void layCourse(int kind) {
            if (kind == SOUND) {
                sound -= BRICKS_A_COURSE;
            } else {
                hollow -= BRICKS_A_COURSE;
            }
            wall = Wall.withCourse(wall, kind);
        }
    }

    /** What one DAY brings, and what it leaves of the straw. */
    private static final class Work {
        final int[] straws = new int[MOST_FIELDS];
        int straw;
        int moulded;
        int sound;

        void reckon(Gang gang, State from, int[] tasks) {
            System.arraycopy(from.straws, 0, straws, 0, MOST_FIELDS);
            straw = from.straw;
            moulded = 0;
            for (int hand = 0; hand < gang.hands && hand < tasks.length; hand++) {
                if (tasks[hand] == MOULDING) {
                    moulded += gang.moulds(hand);
                } else {
                    gather(gang, hand, tasks[hand] - FIRST_FIELD);
                }
            }
            moulded = Math.min(moulded, MOST_MOULDED);
            sound = Math.min(moulded, straw);
            straw -= sound;
        }

        private void gather(Gang gang, int hand, int field) {
            if (gang.hasField(field)) {
                int gathered = Math.min(gang.gathers(hand, field), straws[field]);
                straws[field] -= gathered;
                straw += gathered;
            }
        }
    }

    /** PLANS, and what is found when all of them are weighed. */
    private static final class Plans {
        final int[] tasks = new int[MOST_HANDS];
        int bestPlan;
        int bestSound;
        int bestBusy;
        int fewestBusy;
        int mostAllSound;

        /** Takes the TASKS of a PLAN; false: it is none. */
        boolean readFigures(Gang gang, int plan) {
            if (plan < 0) {
                return false;
            }
            int rest = plan;
            for (int hand = gang.hands - 1; hand >= 0; hand--) {
                tasks[hand] = rest % 10;
                if (!gang.hasTask(tasks[hand])) {
                    return false;
                }
                rest /= 10;
            }
            return rest == 0;
        }

        void weighAll(Gang gang, State now, Work work) {
            bestPlan = NONE;
            bestSound = NONE;
            bestBusy = NONE;
            fewestBusy = NONE;
            mostAllSound = 0;
            Arrays.fill(tasks, RESTING);
            int many = power(FIRST_FIELD + gang.fields, gang.hands);
            for (int n = 0; n < many; n++) {
                work.reckon(gang, now, tasks);
                weigh(gang, work);
                stepToNext(gang);
            }
        }

        /** PLANS come from the least number on, so that of like ones the first stays. */
        private void weigh(Gang gang, Work work) {
            if (work.sound == work.moulded) {
                mostAllSound = Math.max(mostAllSound, work.moulded);
            }
            if (work.moulded < gang.count) {
                return;
            }
            int busy = busyHands(gang);
            if (fewestBusy == NONE || busy < fewestBusy) {
                fewestBusy = busy;
            }
            if (work.sound > bestSound || work.sound == bestSound && busy < bestBusy) {
                bestSound = work.sound;
                bestBusy = busy;
                bestPlan = figures(gang);
            }
        }

        private void stepToNext(Gang gang) {
            for (int hand = gang.hands - 1; hand >= 0; hand--) {
                tasks[hand]++;
                if (gang.hasTask(tasks[hand])) {
                    return;
                }
                tasks[hand] = RESTING;
            }
        }

        private int busyHands(Gang gang) {
            int busy = 0;
            for (int hand = 0; hand < gang.hands; hand++) {
                if (tasks[hand] != RESTING) {
                    busy++;
                }
            }
            return busy;
        }

        private int figures(Gang gang) {
            int number = 0;
            for (int hand = 0; hand < gang.hands; hand++) {
                number = 10 * number + tasks[hand];
            }
            return number;
        }
    }

    /** What stood before each of the last ACTS: a ring of rows that are used again. */
    private static final class Acts {
        final State[] before = new State[MOST_ACTS];
        int next;
        int size;

        Acts() {
            for (int n = 0; n < MOST_ACTS; n++) {
                before[n] = new State();
            }
        }

        void forgetAll() {
            size = 0;
        }

        void remember(State now) {
            State.copy(now, before[next]);
            next = (next + 1) % MOST_ACTS;
            size = Math.min(size + 1, MOST_ACTS);
        }

        void takeBack(State now) {
            if (size > 0) {
                next = (next + MOST_ACTS - 1) % MOST_ACTS;
                size--;
                State.copy(before[next], now);
            }
        }
    }

    /** What is kept, to go on from. */
    private static final class Slots {
        final State[] kept = new State[SLOTS];
        final boolean[] used = new boolean[SLOTS];

        Slots() {
            for (int slot = 0; slot < SLOTS; slot++) {
                kept[slot] = new State();
            }
        }

        boolean has(int slot) {
            return slot >= 0 && slot < SLOTS;
        }

        void forgetAll() {
            for (int slot = 0; slot < SLOTS; slot++) {
                used[slot] = false;
            }
        }

        void store(int slot, State now) {
            if (has(slot)) {
                State.copy(now, kept[slot]);
                used[slot] = true;
            }
        }

        void bringBack(int slot, State now) {
            if (has(slot) && used[slot]) {
                State.copy(kept[slot], now);
            }
        }
    }

    /** What was SEEN of a WALL behind RAINS. */
    private static final class Sights {
        final int[] rains = new int[MOST_SEEN];
        final int[] course = new int[MOST_SEEN];
        final int[] how = new int[MOST_SEEN];
        int size;

        boolean add(int r, int itsCourse, int itWas) {
            if (size >= MOST_SEEN) {
                return false;
            }
            rains[size] = r;
            course[size] = itsCourse;
            how[size] = itWas;
            size++;
            return true;
        }

        boolean agreeWith(int wall) {
            for (int n = 0; n < size; n++) {
                int left = Wall.behindRains(wall, rains[n]);
                if (Wall.courseAt(left, course[n]) != how[n]) {
                    return false;
                }
            }
            return true;
        }
    }
}
