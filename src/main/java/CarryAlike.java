import java.util.Arrays;

/** Two may pass who carry alike: a net of lanes, its walkers, their mornings, and what is told of all. */
public final class CarryAlike {
    public static final int NONE = -1, UNKNOWN = -101, OUTSIDE = -102, STATE = -103, FULL = -104;

    private static final int CORNERS = 8;
    private static final int MOST_LANES = 12;
    private static final int MOST_LETTERS = 50;
    private static final int MOST_WALKERS = 5;
    private static final int MOST_STEPS = 20;
    private static final int MOST_LOAD = 20;
    private static final int MOST_POUNDS = 99;
    private static final int MOST_MINUTES = 60;
    private static final int MOST_PLANNED = 3;
    private static final int MOST_PLANS = 40;
    private static final int PLAN_MINUTES = 30;
    private static final int EVERY_LANE = MOST_LANES;

    private static final int WALKER = 0, PORTER = 1, BRIDE = 2, WISE = 3;

    private final Page page;
    private final NetReader reader;
    private final Net net;
    private final Town live;
    private final Town kept;
    private final Morning morning;
    private final Loads loads;
    private final Planner planner;
    private boolean hasNet;
    private boolean hasImage;
    private int netsRead;
    private int plansDone;

    public CarryAlike() {
        page = new Page();
        reader = new NetReader();
        net = new Net();
        live = new Town();
        kept = new Town();
        morning = new Morning(net, live);
        loads = new Loads(net, live, morning);
        planner = new Planner(net, live);
        hasNet = false;
        hasImage = false;
        netsRead = 0;
        plansDone = 0;
    }

    // ---- texts

    public int letters(long w) {
        int more = Page.told(w);
        if (more < 0) {
            return OUTSIDE;
        }
        if (page.length + more > MOST_LETTERS) {
            return FULL;
        }
        page.append(w, more);
        return page.length;
    }

    public int blank() {
        int had = page.length;
        page.length = 0;
        return had;
    }

    public int fault(int sort) {
        if (sort != 0 && sort != 1) {
            return OUTSIDE;
        }
        return sort == 0 ? reader.readFrom(page) : page.digitsOfWay();
    }

    public int net() {
        if (reader.readFrom(page) < page.length || !reader.isWhole()) {
            return STATE;
        }
        net.become(reader);
        live.empty();
        page.length = 0;
        hasNet = true;
        hasImage = false;
        netsRead++;
        return net.lanes;
    }

    public int lane(int lane, int what) {
        if (lane < 0 || lane >= net.lanes) {
            return UNKNOWN;
        }
        switch (what) {
            case 0:
                return net.from[lane];
            case 1:
                return net.to[lane];
            case 2:
                return net.wide[lane] ? 1 : 0;
            default:
                return OUTSIDE;
        }
    }

    // ---- walkers

    public int walker(int kind, int corner, int goal, int load) {
        if (!isCorner(corner) || !isCorner(goal)) {
            return UNKNOWN;
        }
        if (!isKind(kind) || !isLoad(load)) {
            return OUTSIDE;
        }
        if (!hasNet) {
            return STATE;
        }
        return live.add(kind, corner, goal, load) ? live.size - 1 : FULL;
    }

    public int about(int walker, int what) {
        Walker one = live.at(walker);
        if (one == null) {
            return UNKNOWN;
        }
        switch (what) {
            case 0:
                return one.kind;
            case 1:
                return one.corner;
            case 2:
                return one.goal;
            case 3:
                return one.load;
            case 4:
                return one.carriesWith(one.load);
            case 5:
                return one.wayLength - one.wayDone;
            case 6:
                return one.cornerBehind(one.wayDone);
            default:
                return OUTSIDE;
        }
    }

    public int as(int walker, int kind) {
        Walker one = live.at(walker);
        if (one == null) {
            return UNKNOWN;
        }
        if (!isKind(kind)) {
            return OUTSIDE;
        }
        return one.isA(kind) ? walker : NONE;
    }

    public int way(int walker) {
        Walker one = live.at(walker);
        if (one == null) {
            return UNKNOWN;
        }
        if (page.length == 0 || page.digitsOfWay() < page.length || !leadsOn(one.corner)) {
            return STATE;
        }
        one.readWay(page);
        page.length = 0;
        return one.wayLength;
    }

    public int load(int walker, int v) {
        Walker one = live.at(walker);
        if (one == null) {
            return UNKNOWN;
        }
        if (!isLoad(v)) {
            return OUTSIDE;
        }
        int was = one.load;
        one.load = v;
        return was;
    }

    public int pass(int a, int b) {
        if (live.at(a) == null || live.at(b) == null || a == b) {
            return UNKNOWN;
        }
        return live.mayPass(net, a, b) ? 1 : 0;
    }

    public int heap(int corner, int v) {
        if (!isCorner(corner)) {
            return UNKNOWN;
        }
        if (!isHeap(v)) {
            return OUTSIDE;
        }
        if (!hasNet) {
            return STATE;
        }
        int was = live.heaps[corner];
        live.heaps[corner] = v;
        return was;
    }

    public int take(int walker, int pounds) {
        Walker one = live.at(walker);
        if (one == null) {
            return UNKNOWN;
        }
        if (pounds < -MOST_LOAD || pounds > MOST_LOAD) {
            return OUTSIDE;
        }
        int load = one.load + pounds;
        int left = live.heaps[one.corner] - pounds;
        if (!one.isA(PORTER) || !isLoad(load) || !isHeap(left)) {
            return STATE;
        }
        one.load = load;
        live.heaps[one.corner] = left;
        return load;
    }

    // ---- mornings

    public int minutes(int minutes) {
        if (!areMinutes(minutes)) {
            return OUTSIDE;
        }
        if (!hasNet) {
            return STATE;
        }
        int times = 0;
        morning.begin(0);
        for (int minute = 0; minute < minutes; minute++) {
            times += morning.goOn();
        }
        morning.keep();
        live.minutes += minutes;
        return times;
    }

    public int first(int what) {
        if (what < 0 || what > 2) {
            return OUTSIDE;
        }
        morning.begin(0);
        for (int minute = 1; minute <= MOST_MINUTES && !morning.isOver(); minute++) {
            if (morning.goOn() > 0) {
                return what == 0 ? minute : what == 1 ? morning.lesser : morning.greater;
            }
        }
        return NONE;
    }

    public int soonest(int what) {
        if (what < 0 || what > MOST_PLANNED) {
            return OUTSIDE;
        }
        if (!mayPlan()) {
            return STATE;
        }
        plansDone++;
        planner.begin();
        int fewest = planner.fewest(NONE, PLAN_MINUTES);
        if (what == 0) {
            return fewest;
        }
        return fewest <= 0 || what > live.size ? NONE : planner.firstStep(fewest, what - 1);
    }

    public int wider(int what) {
        if (what != 0 && what != 1) {
            return OUTSIDE;
        }
        if (!mayPlan()) {
            return STATE;
        }
        plansDone++;
        planner.begin();
        planner.widen();
        return what == 0 ? planner.bestLane : planner.bestMinutes;
    }

    public int enough(int walker) {
        return live.at(walker) == null ? UNKNOWN : loads.leastFor(walker);
    }

    public int fits(int set) {
        return isSet(set) ? loads.waysFor(set) : OUTSIDE;
    }

    public int sure(int walker, int set) {
        if (live.at(walker) == null) {
            return UNKNOWN;
        }
        if (!isSet(set)) {
            return OUTSIDE;
        }
        if ((set >> walker & 1) == 0 || loads.waysFor(set) == 0) {
            return NONE;
        }
        return loads.onlyOne(walker);
    }

    public int crowd(int minutes, int seed, int what) {
        if (!areMinutes(minutes) || seed < 0 || what < 0 || what > 2) {
            return OUTSIDE;
        }
        if (!hasNet) {
            return STATE;
        }
        int times = 0;
        morning.begin(0);
        morning.seed = seed;
        for (int minute = 0; minute < minutes; minute++) {
            times += morning.wander();
        }
        return what == 0 ? times : what == 1 ? morning.atGoals() : (int) morning.seed;
    }

    // ---- what is told of all

    public int image() {
        if (!hasNet) {
            return STATE;
        }
        kept.become(live);
        hasImage = true;
        return live.minutes;
    }

    public int restore() {
        if (!hasImage) {
            return STATE;
        }
        live.become(kept);
        return live.minutes;
    }

    public int count(int what) {
        switch (what) {
            case 0:
                return net.lanes;
            case 1:
                return net.wideOnes();
            case 2:
                return live.size;
            case 3:
                return live.atGoals();
            case 4:
                return live.minutes;
            case 5:
                return page.length;
            case 6:
                return netsRead;
            case 7:
                return plansDone;
            case 8:
                return net.doubles ? 1 : 0;
            case 9:
                return net.empties ? 1 : 0;
            default:
                return OUTSIDE;
        }
    }

    public long digest() {
        long h = 617;
        for (int lane = 0; lane < net.lanes; lane++) {
            for (int what = 0; what <= 2; what++) {
                h = 31 * h + lane(lane, what);
            }
        }
        for (int walker = 0; walker < live.size; walker++) {
            h = withWalker(h, walker);
        }
        for (int corner = 0; hasNet && corner < CORNERS; corner++) {
            h = 31 * h + live.heaps[corner];
        }
        for (int what = 0; what <= 2; what++) {
            h = 31 * h + first(what);
        }
        h = 31 * h + loads.waysFor((1 << Math.min(live.size, MOST_PLANNED)) - 1);
        for (int place = 0; place < page.length; place++) {
            h = 31 * h + page.at(place);
        }
        for (int what = 0; what <= 9; what++) {
            h = 31 * h + count(what);
        }
        return h;
    }

    private long withWalker(long before, int walker) {
        long h = before;
        for (int what = 0; what <= 6; what++) {
            h = 31 * h + about(walker, what);
        }
        for (int other = 0; other < live.size; other++) {
            if (other != walker) {
                h = 31 * h + pass(walker, other);
            }
        }
        return 31 * h + loads.leastFor(walker);
    }

    /** Whether THE PAGE, known to hold digits alone, leads from corner to corner along lanes. */
    private boolean leadsOn(int corner) {
        int here = corner;
        for (int place = 0; place < page.length; place++) {
            int there = page.at(place) - '0';
            if (there != here && !net.joins(here, there)) {
                return false;
            }
            here = there;
        }
        return true;
    }

    private boolean mayPlan() {
        return live.size >= 1 && live.size <= MOST_PLANNED && plansDone < MOST_PLANS;
    }

    private boolean isSet(int set) {
        return set >= 0 && set < 1 << live.size && Integer.bitCount(set) <= MOST_PLANNED;
    }

    private static boolean isCorner(int corner) {
        return corner >= 0 && corner < CORNERS;
    }

    private static boolean isKind(int kind) {
        return kind >= WALKER && kind <= WISE;
    }

    private static boolean isLoad(int load) {
        return load >= 0 && load <= MOST_LOAD;
    }

    private static boolean isHeap(int pounds) {
        return pounds >= 0 && pounds <= MOST_POUNDS;
    }

    private static boolean areMinutes(int minutes) {
        return minutes >= 1 && minutes <= MOST_MINUTES;
    }

    /** THE PAGE: letters that wait to be read. */
    private static final class Page {
        private final char[] signs = new char[MOST_LETTERS];
        private int length = 0;

        /** How many letters w tells; NONE, if its bytes tell none such. */
        static int told(long w) {
            int told = 0;
            boolean ended = false;
            for (int i = 0; i < 8; i++) {
                int code = (int) (w >>> 8 * i & 255);
                if (code > 126 || ended && code != 0) {
                    return NONE;
                }
                if (code == 0) {
                    ended = true;
                } else {
                    told++;
                }
            }
            return told;
        }

        void append(long w, int more) {
            for (int i = 0; i < more && length < MOST_LETTERS; i++) {
                signs[length] = (char) (w >>> 8 * i & 255);
                length++;
            }
        }

        char at(int place) {
            return place >= 0 && place < length ? signs[place] : (char) 0;
        }

        /** How many letters a WAY can begin with as they stand here. */
        int digitsOfWay() {
            int place = 0;
            while (place < length && place < MOST_STEPS && isDigit(signs[place])) {
                place++;
            }
            return place;
        }

        /** Only the digits that name a corner count. */
        static boolean isDigit(char letter) {
            return letter >= '0' && letter < '0' + CORNERS;
        }
    }

    /** Reads a text letter by letter as a NET, and gathers what it tells. */
    private static final class NetReader {
        private static final int AT_FIRST = 0, AT_SECOND = 1, BEHIND_CORNERS = 2, BEHIND_WIDE = 3;
        private static final int AT_LAW = 4, BEHIND_D = 5, BEHIND_W = 6;

        private final int[] from = new int[MOST_LANES];
        private final int[] to = new int[MOST_LANES];
        private final boolean[] wide = new boolean[MOST_LANES];
        private int lanes = 0;
        private boolean doubles = false;
        private boolean empties = false;
        private int state = AT_FIRST;
        /** A bit for each two corners, at 8 times the one and the other. */
        private long joined = 0;

        /** The place of the first letter that no NET has there; how many letters there are, if all can be. */
        int readFrom(Page page) {
            lanes = 0;
            doubles = false;
            empties = false;
            state = AT_FIRST;
            joined = 0;
            int place = 0;
            while (place < page.length && accepts(page.at(place))) {
                place++;
            }
            return place;
        }

        /** Whether the text may end here. */
        boolean isWhole() {
            return state == BEHIND_CORNERS || state == BEHIND_WIDE || state == BEHIND_D || state == BEHIND_W;
        }

        private boolean accepts(char letter) {
            switch (state) {
                case AT_FIRST:
                    return acceptsFirst(letter);
                case AT_SECOND:
                    return acceptsSecond(letter);
                case BEHIND_CORNERS:
                    return letter == '=' ? acceptsWide() : acceptsMark(letter);
                case BEHIND_WIDE:
                    return acceptsMark(letter);
                case AT_LAW:
                    return letter == 'd' ? acceptsDoubles() : letter == 'w' && acceptsEmpties();
                case BEHIND_D:
                    return letter == 'w' && acceptsEmpties();
                default:
                    return false;
            }
        }

        /** Any corner can begin a LANE, joined to all others too: of a LANE told twice it is the second digit that cannot be. */
        private boolean acceptsFirst(char letter) {
            if (!Page.isDigit(letter) || lanes >= MOST_LANES) {
                return false;
            }
            from[lanes] = letter - '0';
            state = AT_SECOND;
            return true;
        }

        private boolean acceptsSecond(char letter) {
            if (!Page.isDigit(letter) || lanes >= MOST_LANES) {
                return false;
            }
            int one = from[lanes];
            int other = letter - '0';
            if (one == other || (joined >>> 8 * one + other & 1) == 1) {
                return false;
            }
            joined |= 1L << 8 * one + other | 1L << 8 * other + one;
            to[lanes] = other;
            wide[lanes] = false;
            lanes++;
            state = BEHIND_CORNERS;
            return true;
        }

        private boolean acceptsWide() {
            if (lanes < 1) {
                return false;
            }
            wide[lanes - 1] = true;
            state = BEHIND_WIDE;
            return true;
        }

        private boolean acceptsMark(char letter) {
            if (letter == ',' && lanes < MOST_LANES) {
                state = AT_FIRST;
                return true;
            }
            if (letter == ';') {
                state = AT_LAW;
                return true;
            }
            return false;
        }

        private boolean acceptsDoubles() {
            doubles = true;
            state = BEHIND_D;
            return true;
        }

        private boolean acceptsEmpties() {
            empties = true;
            state = BEHIND_W;
            return true;
        }
    }

    /** THE NET: its LANES and THE LAW of passing. */
    private static final class Net {
        private final int[] from = new int[MOST_LANES];
        private final int[] to = new int[MOST_LANES];
        private final boolean[] wide = new boolean[MOST_LANES];
        private int lanes = 0;
        private boolean doubles = false;
        private boolean empties = false;
        /** For each two corners, at 8 times the one and the other, their LANE or NONE. */
        private final int[] between = new int[CORNERS * CORNERS];
        /** From 8 times a corner on: where one can be a minute later, itself too, by number. */
        private final int[] steps = new int[CORNERS * CORNERS];
        private final int[] stepCount = new int[CORNERS];

        Net() {
            Arrays.fill(between, NONE);
        }

        void become(NetReader text) {
            lanes = text.lanes;
            doubles = text.doubles;
            empties = text.empties;
            Arrays.fill(between, NONE);
            for (int lane = 0; lane < lanes && lane < MOST_LANES; lane++) {
                from[lane] = text.from[lane];
                to[lane] = text.to[lane];
                wide[lane] = text.wide[lane];
                between[CORNERS * from[lane] + to[lane]] = lane;
                between[CORNERS * to[lane] + from[lane]] = lane;
            }
            listSteps();
        }

        private void listSteps() {
            for (int here = 0; here < CORNERS; here++) {
                stepCount[here] = 0;
                for (int there = 0; there < CORNERS; there++) {
                    if (here == there || joins(here, there)) {
                        steps[CORNERS * here + stepCount[here]] = there;
                        stepCount[here]++;
                    }
                }
            }
        }

        boolean joins(int one, int other) {
            return isCorner(one) && isCorner(other) && between[CORNERS * one + other] != NONE;
        }

        /** Whether only those who MAY PASS can pass between the two; widened is a LANE taken as WIDE, or EVERY_LANE. */
        boolean isNarrow(int one, int other, int widened) {
            if (one < 0 || one >= CORNERS || other < 0 || other >= CORNERS || widened == EVERY_LANE) {
                return false;
            }
            int lane = between[CORNERS * one + other];
            return lane >= 0 && lane < MOST_LANES && !wide[lane] && lane != widened;
        }

        /** How many corners one can be in a minute later, its own too. */
        int stepsFrom(int corner) {
            return isCorner(corner) ? stepCount[corner] : 0;
        }

        /** The so-manieth of these, from 0. */
        int step(int corner, int which) {
            return isCorner(corner) && which >= 0 && which < stepCount[corner] ? steps[CORNERS * corner + which] : corner;
        }

        /** Where a draw leads: 0 is to stay, the others are the joined corners from 1. */
        int drawn(int corner, int draw) {
            if (draw <= 0) {
                return corner;
            }
            int other = step(corner, draw - 1);
            // The steps name the corner itself among the joined ones: behind it they stand one place later.
            return other < corner ? other : step(corner, draw);
        }

        int wideOnes() {
            int ones = 0;
            for (int lane = 0; lane < lanes && lane < MOST_LANES; lane++) {
                ones += wide[lane] ? 1 : 0;
            }
            return ones;
        }

        /** Whether two MAY PASS, if they had these LOADS. */
        boolean letsPass(Walker one, int oneLoad, Walker other, int otherLoad) {
            int here = one.carriesWith(oneLoad);
            int there = other.carriesWith(otherLoad);
            if (here == there) {
                return true;
            }
            if (doubles && (here == 2 * there || there == 2 * here)) {
                return true;
            }
            if (empties && (here == 0 || there == 0)) {
                return true;
            }
            return one.isA(WISE) && there == 0 || other.isA(WISE) && here == 0;
        }
    }

    /** A WALKER of any KIND. */
    private static final class Walker {
        private static final int OF_A_BRIDE = 7;

        private int kind = WALKER;
        private int corner = 0;
        private int goal = 0;
        private int load = 0;
        private final int[] way = new int[MOST_STEPS];
        private int wayLength = 0;
        private int wayDone = 0;

        boolean isA(int asked) {
            return asked == WALKER || asked == kind || asked == PORTER && kind == WISE;
        }

        int carriesWith(int pounds) {
            return kind == BRIDE ? pounds + OF_A_BRIDE : pounds;
        }

        /** The corner that comes when so many of the WAY are done; NONE at its end. */
        int cornerBehind(int done) {
            return done >= 0 && done < wayLength && done < MOST_STEPS ? way[done] : NONE;
        }

        void readWay(Page page) {
            wayLength = Math.min(page.length, MOST_STEPS);
            wayDone = 0;
            for (int place = 0; place < wayLength; place++) {
                way[place] = page.at(place) - '0';
            }
        }

        void become(Walker other) {
            kind = other.kind;
            corner = other.corner;
            goal = other.goal;
            load = other.load;
            wayLength = other.wayLength;
            wayDone = other.wayDone;
            System.arraycopy(other.way, 0, way, 0, MOST_STEPS);
        }
    }

    /** What an IMAGE keeps: the WALKERS, the HEAPS, the MINUTES that have gone. */
    private static final class Town {
        private final Walker[] walkers = new Walker[MOST_WALKERS];
        private int size = 0;
        private final int[] heaps = new int[CORNERS];
        private int minutes = 0;

        Town() {
            for (int i = 0; i < MOST_WALKERS; i++) {
                walkers[i] = new Walker();
            }
        }

        /** The WALKER of a number; null, if it names none. */
        Walker at(int number) {
            return number >= 0 && number < size && number < MOST_WALKERS ? walkers[number] : null;
        }

        /** Whether two MAY PASS by their LOADS; who is not there is in nobody's way. */
        boolean mayPass(Net net, int a, int b) {
            Walker one = at(a);
            Walker other = at(b);
            return one == null || other == null || net.letsPass(one, one.load, other, other.load);
        }

        boolean add(int kind, int corner, int goal, int load) {
            if (size >= MOST_WALKERS) {
                return false;
            }
            Walker one = walkers[size];
            one.kind = kind;
            one.corner = corner;
            one.goal = goal;
            one.load = load;
            one.wayLength = 0;
            one.wayDone = 0;
            size++;
            return true;
        }

        void empty() {
            size = 0;
            minutes = 0;
            Arrays.fill(heaps, 0);
        }

        void become(Town other) {
            size = other.size;
            minutes = other.minutes;
            System.arraycopy(other.heaps, 0, heaps, 0, CORNERS);
            for (int i = 0; i < size && i < MOST_WALKERS; i++) {
                walkers[i].become(other.walkers[i]);
            }
        }

        int atGoals() {
            int ones = 0;
            for (int i = 0; i < size && i < MOST_WALKERS; i++) {
                ones += walkers[i].corner == walkers[i].goal ? 1 : 0;
            }
            return ones;
        }
    }

    /** A MORNING as it would be: it changes nothing of the town until it is kept. */
    private static final class Morning {
        private final Net net;
        private final Town town;
        private final int[] corner = new int[MOST_WALKERS];
        private final int[] done = new int[MOST_WALKERS];
        private final int[] want = new int[MOST_WALKERS];
        private final boolean[] back = new boolean[MOST_WALKERS];
        /** Of each one, as bits, who goes by it without going back. */
        private final int[] passes = new int[MOST_WALKERS];
        /** Of each one, as bits, whom it met in a LANE that is not WIDE. */
        private final int[] met = new int[MOST_WALKERS];
        /** The least two who went back in the latest minute. */
        private int lesser = NONE;
        private int greater = NONE;
        private long seed = 0;

        Morning(Net net, Town town) {
            this.net = net;
            this.town = town;
        }

        /** Those who are free (bits) pass all, and all pass them. */
        void begin(int free) {
            for (int i = 0; i < MOST_WALKERS; i++) {
                Walker one = town.at(i);
                corner[i] = one == null ? 0 : one.corner;
                done[i] = one == null ? 0 : one.wayDone;
                passes[i] = (free >> i & 1) == 1 ? -1 : free;
                met[i] = 0;
                for (int j = 0; j < MOST_WALKERS; j++) {
                    if (town.mayPass(net, i, j)) {
                        passes[i] |= 1 << j;
                    }
                }
            }
        }

        boolean isOver() {
            for (int i = 0; i < MOST_WALKERS; i++) {
                Walker one = town.at(i);
                if (one != null && done[i] < one.wayLength) {
                    return false;
                }
            }
            return true;
        }

        /** All go on to the end of their WAYS, in a morning's time: how often two went back. */
        int goAll() {
            int times = 0;
            for (int minute = 0; minute < MOST_MINUTES && !isOver(); minute++) {
                times += goOn();
            }
            return times;
        }

        /** A minute on the WAYS: how often two went back. */
        int goOn() {
            for (int i = 0; i < MOST_WALKERS; i++) {
                Walker one = town.at(i);
                int next = one == null ? NONE : one.cornerBehind(done[i]);
                want[i] = next == NONE ? corner[i] : next;
            }
            int times = meet();
            for (int i = 0; i < MOST_WALKERS; i++) {
                Walker one = town.at(i);
                if (one != null && !back[i] && done[i] < one.wayLength) {
                    done[i]++;
                }
            }
            settle();
            return times;
        }

        /** A minute by draws: how often two went back. */
        int wander() {
            for (int i = 0; i < MOST_WALKERS; i++) {
                want[i] = corner[i];
                if (town.at(i) != null) {
                    want[i] = net.drawn(corner[i], draw(net.stepsFrom(corner[i])));
                }
            }
            int times = meet();
            settle();
            return times;
        }

        private int draw(int of) {
            seed = 1103515245L * seed + 12345 & 0x7fffffffL;
            return of < 1 ? 0 : (int) (seed / 65536 % of);
        }

        /** Finds who goes back: how many two of them. */
        private int meet() {
            int times = 0;
            lesser = NONE;
            greater = NONE;
            for (int i = 0; i < MOST_WALKERS; i++) {
                back[i] = false;
            }
            for (int i = 0; i < MOST_WALKERS; i++) {
                for (int j = i + 1; j < MOST_WALKERS; j++) {
                    boolean against = want[i] == corner[j] && want[j] == corner[i];
                    if (against && net.isNarrow(corner[i], corner[j], NONE) && goBack(i, j)) {
                        times++;
                    }
                }
            }
            return times;
        }

        /** Of two against one another in a LANE that is not WIDE: whether they go back. */
        private boolean goBack(int i, int j) {
            met[i] |= 1 << j;
            met[j] |= 1 << i;
            if ((passes[i] >> j & 1) == 1) {
                return false;
            }
            back[i] = true;
            back[j] = true;
            if (lesser == NONE) {
                lesser = i;
                greater = j;
            }
            return true;
        }

        private void settle() {
            for (int i = 0; i < MOST_WALKERS; i++) {
                if (!back[i]) {
                    corner[i] = want[i];
                }
            }
        }

        /** What would be is so from now on. */
        void keep() {
            for (int i = 0; i < MOST_WALKERS; i++) {
                Walker one = town.at(i);
                if (one != null) {
                    one.corner = corner[i];
                    one.wayDone = done[i];
                }
            }
        }

        /** Who is at its GOAL, as bits. */
        int atGoals() {
            int ones = 0;
            for (int i = 0; i < MOST_WALKERS; i++) {
                Walker one = town.at(i);
                if (one != null && one.goal == corner[i]) {
                    ones |= 1 << i;
                }
            }
            return ones;
        }
    }

    /** LOADS by who would have to pass whom. */
    private static final class Loads {
        private static final int CHOICES = 10;

        private final Net net;
        private final Town town;
        private final Morning morning;
        private final int[] trial = new int[MOST_WALKERS];
        private final int[] members = new int[MOST_PLANNED];
        private int size = 0;
        private int set = 0;
        private int ways = 0;
        /** Of each one of the set, over all ways. */
        private final int[] least = new int[MOST_WALKERS];
        private final int[] most = new int[MOST_WALKERS];

        Loads(Net net, Town town, Morning morning) {
            this.net = net;
            this.town = town;
            this.morning = morning;
        }

        /** ENOUGH. While it never goes back, its own LOAD changes nobody's morning: one morning tells whom it has to pass. */
        int leastFor(int walker) {
            gather(1 << walker);
            morning.begin(set);
            morning.goAll();
            for (int load = 0; load <= MOST_LOAD; load++) {
                if (suits(0, load)) {
                    return load;
                }
            }
            return NONE;
        }

        /** FITS. Nobody goes back, if all who meet on the WAYS, gone without a halt, may pass. */
        int waysFor(int asked) {
            gather(asked);
            morning.begin(set);
            if (morning.goAll() > 0) {
                return 0;
            }
            for (int load = 0; load < choices(0); load++) {
                if (suits(0, load)) {
                    tryOthers();
                }
            }
            return ways;
        }

        private void tryOthers() {
            for (int second = 0; second < choices(1); second++) {
                if (!suits(1, second)) {
                    continue;
                }
                for (int third = 0; third < choices(2); third++) {
                    if (suits(2, third)) {
                        note();
                    }
                }
            }
        }

        /** The LOAD of one of the set, if it was the same in all ways; NONE otherwise. */
        int onlyOne(int walker) {
            return ways > 0 && walker >= 0 && walker < MOST_WALKERS && least[walker] == most[walker] ? least[walker] : NONE;
        }

        private void gather(int asked) {
            set = asked;
            size = 0;
            ways = 0;
            for (int i = 0; i < MOST_WALKERS; i++) {
                Walker one = town.at(i);
                trial[i] = one == null ? 0 : one.load;
                least[i] = MOST_LOAD;
                most[i] = 0;
                if ((set >> i & 1) == 1 && size < MOST_PLANNED) {
                    members[size] = i;
                    size++;
                }
            }
        }

        private int choices(int member) {
            return member < size ? CHOICES : 1;
        }

        /** A member has this LOAD: whether it may pass all whom it meets but those of the set behind it. */
        private boolean suits(int member, int load) {
            if (member < 0 || member >= size || member >= MOST_PLANNED) {
                return true;
            }
            int i = members[member];
            Walker one = town.at(i);
            if (one == null) {
                return true;
            }
            trial[i] = load;
            int behind = set & -2 << i;
            for (int j = 0; j < MOST_WALKERS; j++) {
                Walker other = town.at(j);
                boolean meets = (morning.met[i] & ~behind & 1 << j) != 0;
                if (meets && other != null && !net.letsPass(one, load, other, trial[j])) {
                    return false;
                }
            }
            return true;
        }

        private void note() {
            ways++;
            for (int member = 0; member < size && member < MOST_PLANNED; member++) {
                int i = members[member];
                least[i] = Math.min(least[i], trial[i]);
                most[i] = Math.max(most[i], trial[i]);
            }
        }
    }

    /** How soon all can be where they want; where they all are is one number, three bits for each. */
    private static final class Planner {
        private static final int PLACES = CORNERS * CORNERS * CORNERS;

        private final Net net;
        private final Town town;
        /** How many minutes from the GOALS, as far as it is known. */
        private final int[] far = new int[PLACES];
        private final int[] line = new int[PLACES];
        private int lineEnd = 0;
        private int start = 0;
        private int goals = 0;
        /** Whether 0 and 1, 0 and 2, 1 and 2 may pass. */
        private boolean pass01 = true;
        private boolean pass02 = true;
        private boolean pass12 = true;
        private int widened = NONE;
        private int bestLane = NONE;
        private int bestMinutes = NONE;

        Planner(Net net, Town town) {
            this.net = net;
            this.town = town;
        }

        void begin() {
            start = 0;
            goals = 0;
            for (int i = 0; i < MOST_PLANNED; i++) {
                Walker one = town.at(i);
                start = CORNERS * start + (one == null ? 0 : one.corner);
                goals = CORNERS * goals + (one == null ? 0 : one.goal);
            }
            pass01 = town.mayPass(net, 0, 1);
            pass02 = town.mayPass(net, 0, 2);
            pass12 = town.mayPass(net, 1, 2);
        }

        /** SOONEST, if a LANE was WIDE; NONE, if it is above most. It looks back from the GOALS: who can go can come. */
        int fewest(int wideLane, int most) {
            widened = wideLane;
            Arrays.fill(far, NONE);
            far[goals] = 0;
            line[0] = goals;
            lineEnd = 1;
            for (int head = 0; head < PLACES && head < lineEnd && far[start] == NONE && far[line[head]] < most; head++) {
                spread(line[head]);
            }
            return far[start];
        }

        private void spread(int place) {
            int a = cornerIn(place, 0);
            int b = cornerIn(place, 1);
            int c = cornerIn(place, 2);
            int stepsOfC = stepsOf(2, c);
            for (int i = stepsOf(0, a) - 1; i >= 0; i--) {
                int a2 = net.step(a, i);
                for (int j = stepsOf(1, b) - 1; j >= 0; j--) {
                    int b2 = net.step(b, j);
                    if (!pass01 && clash(a, a2, b, b2)) {
                        continue;
                    }
                    for (int k = 0; k < stepsOfC; k++) {
                        int c2 = net.step(c, k);
                        int there = (a2 * CORNERS + b2) * CORNERS + c2;
                        if (far[there] == NONE && (pass02 || !clash(a, a2, c, c2)) && (pass12 || !clash(b, b2, c, c2))) {
                            reach(there, far[place] + 1);
                        }
                    }
                }
            }
        }

        private void reach(int place, int minutes) {
            far[place] = minutes;
            if (lineEnd < PLACES) {
                line[lineEnd] = place;
                lineEnd++;
            }
        }

        /** Who is not there stays in corner 0, the first step from which is to stay. */
        private int stepsOf(int walker, int corner) {
            return walker < town.size ? net.stepsFrom(corner) : 1;
        }

        private boolean clash(int one, int oneNext, int other, int otherNext) {
            return oneNext == other && otherNext == one && net.isNarrow(one, other, widened);
        }

        private static int cornerIn(int place, int walker) {
            return place >> 3 * (MOST_PLANNED - 1 - walker) & CORNERS - 1;
        }

        /** Where a WALKER is behind the first of so many minutes, as fewest() has just told them. */
        int firstStep(int minutes, int walker) {
            for (int place = 0; place < PLACES; place++) {
                if (far[place] == minutes - 1 && canGo(start, place)) {
                    return cornerIn(place, walker);
                }
            }
            return NONE;
        }

        private boolean canGo(int here, int there) {
            for (int i = 0; i < MOST_PLANNED; i++) {
                int one = cornerIn(here, i);
                int next = cornerIn(there, i);
                if (one != next && !net.joins(one, next)) {
                    return false;
                }
            }
            int a = cornerIn(here, 0);
            int a2 = cornerIn(there, 0);
            int b = cornerIn(here, 1);
            int b2 = cornerIn(there, 1);
            int c = cornerIn(here, 2);
            int c2 = cornerIn(there, 2);
            return (pass01 || !clash(a, a2, b, b2)) && (pass02 || !clash(a, a2, c, c2)) && (pass12 || !clash(b, b2, c, c2));
        }

        /** WIDER. By no LANE it is sooner than if all were WIDE. */
        void widen() {
            bestLane = NONE;
            bestMinutes = NONE;
            int now = fewest(NONE, PLAN_MINUTES);
            int least = fewest(EVERY_LANE, PLAN_MINUTES);
            if (least == NONE) {
                return;
            }
            int best = now == NONE ? PLAN_MINUTES + 1 : now;
            for (int lane = 0; lane < net.lanes && best > least; lane++) {
                int minutes = net.wide[lane] ? NONE : fewest(lane, best - 1);
                if (minutes != NONE) {
                    best = minutes;
                    bestLane = lane;
                    bestMinutes = minutes;
                }
            }
        }
    }
}
