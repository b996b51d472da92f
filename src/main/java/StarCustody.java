/** Lights that come over one roof, and the two houses that have the roof by turns. */
public final class StarCustody {
    public static final int NONE = -1, BAD = -2, STATE = -3, FULL = -4;
    public static final long NO = Long.MIN_VALUE;

    private static final int NEVER = -5, OTHER_KIND = -6, NO_BASE = -9999999, BEFORE_FAULT = -10;
    private static final int STAR = 0, MOON = 1, COMET = 2, NEBULA = 3, TWIN = 4, GUEST = 5, TOLD = 6;
    private static final int V = 1, ROUND = 2, PHASE = 3;
    private static final int MOST_LIGHTS = 6, MOST_SKIES = 5, MOST_NOTES = 6, MOST_ROWS = 8;
    private static final int MOST_SIGNS = 100, MOST_CLAUSES = 10, MOST_OPEN = 5, MOST_KEPT = 20;
    private static final int MOST_V = 9, MOST_ROUND = 30, MOST_PHASE = 29, ROW_SIZE = 4;
    private static final int MOST_SEEN = 9999999, LAST_NIGHT = 9999, MOST_NIGHTS = 60, FARTHEST = 900;
    private static final int MOST_DEALT = 9, MONTH = 28, MOST_CLOUD = 12, MOST_Q = 9999;

    private final Rows trace = new Rows(MOST_KEPT, 1);
    private final Roof now = new Roof();
    private final Roof kept = new Roof();
    private final SkyReader reader = new SkyReader(now.tape);
    // what nights, or lights, are worth to each house, in the call that runs
    private final int[] toZero = new int[MOST_NIGHTS];
    private final int[] toOne = new int[MOST_NIGHTS];
    private boolean isKept = false;

    public StarCustody() {
    }

    // ---- skies, lights

    public int feed(int sign) {
        if (!isIn(sign, 0, 127)) {
            return BAD;
        }
        return now.tape.isFull() ? FULL : now.tape.tell(sign);
    }

    public int sky() {
        if (now.skies >= MOST_SKIES) {
            return FULL;
        }
        int fault = reader.read();
        now.tape.clear();
        if (fault >= 0) {
            return BEFORE_FAULT - fault;
        }
        now.sky.become(reader.sky);
        now.skies++;
        return now.skies - 1;
    }

    public int light(int kind, int v, int round, int phase) {
        if (!isIn(kind, STAR, TOLD)) {
            return NONE;
        }
        if (!isIn(v, 0, MOST_V) || !isIn(round, 1, MOST_ROUND) || !isIn(phase, 0, MOST_PHASE)) {
            return BAD;
        }
        if (now.lights >= MOST_LIGHTS) {
            return FULL;
        }
        now.come(newStar(kind, now.lights, v), round, phase);
        return now.lights - 1;
    }

    public int of(int light, int what) {
        Star one = now.starAt(light);
        if (one == null) {
            return NONE;
        }
        switch (what) {
            case 0: return one.kind;
            case V: return one.v;
            case ROUND: return at(now.rounds, light);
            case PHASE: return at(now.phases, light);
            case 4: return bitOf(now.hidden, light);
            case 5: return now.isUp(light, now.night, now.hidden) ? 1 : 0;
            default: return NONE;
        }
    }

    public int base(int light, int house, int n) {
        Star one = now.starAt(light);
        if (one == null || !isIn(house, 0, 1) || !isIn(n, 0, MOST_NIGHTS)) {
            return NO_BASE;
        }
        return now.sky.baseOf(one, house, now.night + n);
    }

    public int worth(int light, int house, int n) {
        Star one = now.starAt(light);
        if (one == null || !isIn(house, 0, 1)) {
            return NONE;
        }
        return isIn(n, 0, MOST_NIGHTS) ? now.worthOf(one, house, now.night + n) : BAD;
    }

    public int row(int light, int k, int n) {
        Star one = now.starAt(light);
        if (one == null || !isIn(k, 0, ROW_SIZE - 1)) {
            return NONE;
        }
        if (!isIn(n, 0, 9)) {
            return BAD;
        }
        return one.kind == TOLD ? swap(now.rows, light * ROW_SIZE + k, n) : STATE;
    }

    public int set(int light, int what, int n) {
        if (now.starAt(light) == null || !isIn(what, 0, 1)) {
            return NONE;
        }
        if (what == 0) {
            return isIn(n, 1, MOST_ROUND) ? swap(now.rounds, light, n) : BAD;
        }
        return isIn(n, 0, MOST_PHASE) ? swap(now.phases, light, n) : BAD;
    }

    public int hide(int light, boolean is) {
        if (now.starAt(light) == null) {
            return NONE;
        }
        int was = bitOf(now.hidden, light);
        now.hidden = withBit(now.hidden, light, is);
        return was;
    }

    public int told(int what) {
        switch (what) {
            case 0: return now.night;
            case 1: return now.sky.turn;
            case 2: return now.sky.cloud;
            case 3: return now.turnOf(now.night);
            case 4: return isClouded(now.night, now.sky.cloud) ? 1 : 0;
            case 5: return now.upBits(now.night);
            case 6: case 7: return at(now.seen, what - 6);
            case 8: case 9: return now.hasFor(what - 8, now.night, now.hidden, now.sky.cloud);
            default: return NONE;
        }
    }

    public int pass(int n) {
        if (!isIn(n, 0, MOST_NIGHTS)) {
            return BAD;
        }
        if (now.night + n > LAST_NIGHT) {
            return STATE;
        }
        for (int k = 0; k < n; k++) {
            int house = now.turnOf(now.night);
            int seen = at(now.seen, house) + now.hasFor(house, now.night, now.hidden, now.sky.cloud);
            put(now.seen, house, Math.min(seen, MOST_SEEN));
            now.night++;
        }
        return now.night;
    }

    // ---- nights to come, deals, shares

    public int on(int n, int what) {
        if (!isIn(what, 0, 2)) {
            return NONE;
        }
        if (!isIn(n, 0, MOST_NIGHTS)) {
            return BAD;
        }
        if (what == 2) {
            return Integer.bitCount(now.upBits(now.night + n));
        }
        int seen = at(now.seen, what);
        for (int k = 0; k < n; k++) {
            if (now.turnOf(now.night + k) == what) {
                seen += now.hasFor(what, now.night + k, now.hidden, now.sky.cloud);
            }
        }
        return seen;
    }

    public int when(int light) {
        return now.starAt(light) == null ? NONE : nightsTill(light, light);
    }

    public int meet(int one, int other) {
        if (now.starAt(one) == null || now.starAt(other) == null) {
            return NONE;
        }
        return one == other ? BAD : nightsTill(one, other);
    }

    public int deal(int n, int how, int what) {
        if (!isIn(how, 0, 1) || !isIn(what, 0, 2)) {
            return NONE;
        }
        if (!isIn(n, 1, MOST_DEALT)) {
            return BAD;
        }
        for (int k = 0; k < n; k++) {
            put(toZero, k, now.hasFor(0, now.night + k, now.hidden, now.sky.cloud));
            put(toOne, k, now.hasFor(1, now.night + k, now.hidden, now.sky.cloud));
        }
        int way = how == 0 ? fullestWay(toZero, toOne, n) : evenestWay(toZero, toOne, n);
        return what == 0 ? way : given(what == 1 ? toZero : toOne, n, way, what - 1);
    }

    public int shares(int what) {
        if (!isIn(what, 0, 1)) {
            return NONE;
        }
        for (int light = 0; light < now.lights; light++) {
            put(toZero, light, monthOf(light, 0));
            put(toOne, light, monthOf(light, 1));
        }
        return what == 0 ? noEnvyWay(toZero, toOne, now.lights) : fullestWay(toZero, toOne, now.lights);
    }

    // ---- noted, odds

    public int note(int light, int n, boolean isUp) {
        if (light == -1) {
            return now.notes.clear();
        }
        if (now.starAt(light) == null) {
            return NONE;
        }
        if (!isIn(n, 0, MOST_NIGHTS)) {
            return BAD;
        }
        return now.notes.isFull() ? FULL : now.notes.add(light, n, isUp ? 1 : 0);
    }

    public int rounds(int light, int what) {
        return fitting(light, what, ROUND);
    }

    public int phases(int light, int what) {
        return fitting(light, what, PHASE);
    }

    public int firm(int light, int what) {
        return fitting(light, what, V);
    }

    public long odds(int house, int n, int q, int part) {
        if (!isIn(house, 0, 1) || !isIn(n, 0, MOST_NIGHTS) || !isIn(q, 0, MOST_Q) || !isIn(part, 0, 1)) {
            return NO;
        }
        for (int k = 0; k < n; k++) {
            int night = now.night + k;
            put(toZero, k, now.turnOf(night) == house ? now.hasFor(house, night, now.hidden, 0) : 0);
        }
        int good = 0;
        for (int cloud = 0; cloud <= MOST_CLOUD; cloud++) {
            if (seenUnder(cloud, n) >= q) {
                good++;
            }
        }
        return lowest(good, MOST_CLOUD + 1, part);
    }

    public long mean(int house, int part) {
        if (!isIn(house, 0, 1) || !isIn(part, 0, 1)) {
            return NO;
        }
        int sum = 0;
        for (int k = 0; k < MONTH; k++) {
            sum += now.hasFor(house, now.night + k, now.hidden, now.sky.cloud);
        }
        return lowest(sum, MONTH, part);
    }

    // ---- plans, books

    public int plan(int what, int light) {
        if (what == -1) {
            return now.plans.clear();
        }
        if (!isIn(what, 0, 2) || what != 0 && now.starAt(light) == null) {
            return NONE;
        }
        return now.plans.isFull() ? FULL : now.plans.add(what, what == 0 ? 0 : light, 0);
    }

    public int done(int what) {
        if (!isIn(what, 0, 1)) {
            return NONE;
        }
        int night = now.night;
        int hidden = now.hidden;
        int seen = at(now.seen, what);
        for (int i = 0; i < now.plans.count; i++) {
            int act = now.plans.cell(i, 0);
            if (act != 0) {
                hidden = withBit(hidden, now.plans.cell(i, 1), act == 1);
                continue;
            }
            if (now.turnOf(night) == what) {
                seen += now.hasFor(what, night, hidden, now.sky.cloud);
            }
            night++;
        }
        return seen;
    }

    public int book(int n, int house) {
        if (n == -1) {
            return now.books.clear();
        }
        if (!isIn(house, 0, 1)) {
            return NONE;
        }
        if (!isIn(n, 0, MOST_NIGHTS)) {
            return BAD;
        }
        return now.books.isFull() ? FULL : now.books.add(n, house, 0);
    }

    public int looked() {
        for (int i = 0; i < now.books.count; i++) {
            if (now.turnOf(now.night + now.books.cell(i, 0)) != now.books.cell(i, 1)) {
                return i;
            }
        }
        return NEVER;
    }

    // ---- acts, the image

    public int act(int light, int act, int x) {
        trace.clear();
        Star one = now.starAt(light);
        if (one == null) {
            return 0;
        }
        switch (act) {
            case 0: return one.glows(x);
            case 1: return one.claims(x);
            case 2: return one.tells(x);
            default: return 0;
        }
    }

    public int trace(int i) {
        return i >= 0 && i < trace.count && i < MOST_KEPT ? trace.cell(i, 0) : NONE;
    }

    public int as(int light, int k) {
        Star one = now.starAt(light);
        if (one == null || !isIn(k, STAR, TOLD)) {
            return NONE;
        }
        return isOfKind(one, k) ? one.v : OTHER_KIND;
    }

    public int image() {
        kept.become(now);
        isKept = true;
        return now.lights;
    }

    public int undo() {
        if (!isKept) {
            return STATE;
        }
        now.become(kept);
        return now.lights;
    }

    public int count(int what) {
        switch (what) {
            case 0: return now.lights;
            case 1: return now.skies;
            case 2: return now.notes.count;
            case 3: return now.plans.count;
            case 4: return now.books.count;
            case 5: return now.tape.count;
            case 6: return trace.count;
            default: return NONE;
        }
    }

    // ---- lights, by kind

    private Star newStar(int kind, int number, int v) {
        switch (kind) {
            case MOON: return new Moon(kind, number, v, trace);
            case COMET: return new Comet(kind, number, v, trace);
            case NEBULA: return new Nebula(kind, number, v, trace);
            case TWIN: return new Twin(kind, number, v, trace);
            case GUEST: return new Guest(kind, number, v, trace);
            case TOLD: return new Told(kind, number, v, trace);
            default: return new Star(kind, number, v, trace);
        }
    }

    private static boolean isOfKind(Star one, int kind) {
        switch (kind) {
            case STAR: return true;
            case MOON: return one instanceof Moon;
            case COMET: return one instanceof Comet;
            case NEBULA: return one instanceof Nebula;
            case TWIN: return one instanceof Twin;
            case GUEST: return one instanceof Guest;
            default: return one instanceof Told;
        }
    }

    // ---- what is asked of the nights to come

    private int nightsTill(int one, int other) {
        for (int k = 0; k <= FARTHEST; k++) {
            int night = now.night + k;
            if (now.isUp(one, night, now.hidden) && now.isUp(other, night, now.hidden)) {
                return k;
            }
        }
        return NEVER;
    }

    /** The bits of what is worth more to house 1: by them both together have most, and the bits are least. */
    private static int fullestWay(int[] toZero, int[] toOne, int size) {
        int bits = 0;
        for (int k = 0; k < size; k++) {
            bits = withBit(bits, k, at(toOne, k) > at(toZero, k));
        }
        return bits;
    }

    private static int evenestWay(int[] toZero, int[] toOne, int size) {
        int best = 0;
        int mostOfLesser = -1;
        int most = -1;
        for (int way = 0; way < 1 << size; way++) {
            int zero = given(toZero, size, way, 0);
            int one = given(toOne, size, way, 1);
            int lesser = Math.min(zero, one);
            if (lesser > mostOfLesser || lesser == mostOfLesser && zero + one > most) {
                best = way;
                mostOfLesser = lesser;
                most = zero + one;
            }
        }
        return best;
    }

    private static int noEnvyWay(int[] toZero, int[] toOne, int size) {
        for (int way = 0; way < 1 << size; way++) {
            if (given(toZero, size, way, 0) >= given(toZero, size, way, 1)
                && given(toOne, size, way, 1) >= given(toOne, size, way, 0)) {
                return way;
            }
        }
        return NEVER;
    }

    /** What of a row a way gives to an owner, together. */
    private static int given(int[] row, int size, int way, int owner) {
        int sum = 0;
        for (int k = 0; k < size; k++) {
            if (bitOf(way, k) == owner) {
                sum += at(row, k);
            }
        }
        return sum;
    }

    /** What a light is worth to a house in a month; shares put clouds and turns aside. */
    private int monthOf(int light, int house) {
        Star one = now.starAt(light);
        int sum = 0;
        for (int k = 0; k < MONTH && one != null; k++) {
            int night = now.night + k;
            if (now.isUp(light, night, now.hidden)) {
                sum += now.worthOf(one, house, night);
            }
        }
        return sum;
    }

    private int fitting(int light, int what, int field) {
        Star one = now.starAt(light);
        if (one == null || !isIn(what, 0, 1)) {
            return NONE;
        }
        int first = field == ROUND ? 1 : 0;
        int last = field == ROUND ? MOST_ROUND : field == PHASE ? MOST_PHASE : MOST_V;
        int many = 0;
        int least = NEVER;
        for (int x = first; x <= last; x++) {
            if (isAsNoted(one, field, x)) {
                least = many == 0 ? x : least;
                many++;
            }
        }
        return what == 0 ? many : least;
    }

    /** Whether all that is noted of one would be so, were x that field of it. */
    private boolean isAsNoted(Star one, int field, int x) {
        int v = field == V ? x : one.v;
        int round = field == ROUND ? x : at(now.rounds, one.number);
        int phase = field == PHASE ? x : at(now.phases, one.number);
        boolean isHidden = bitOf(now.hidden, one.number) == 1;
        for (int i = 0; i < now.notes.count; i++) {
            boolean isUp = !isHidden && one.isOver(now.night + now.notes.cell(i, 1), v, round, phase);
            if (now.notes.cell(i, 0) == one.number && isUp != (now.notes.cell(i, 2) == 1)) {
                return false;
            }
        }
        return true;
    }

    private int seenUnder(int cloud, int n) {
        int sum = 0;
        for (int k = 0; k < n; k++) {
            sum += isClouded(now.night + k, cloud) ? 0 : at(toZero, k);
        }
        return sum;
    }

    // ---- numbers, bits, rows of numbers

    /** A part of above / below in lowest terms; below is above 0, and above no less than 0. */
    private static long lowest(int above, int below, int part) {
        int divisor = 1;
        for (int d = 2; d <= below; d++) {
            if (above % d == 0 && below % d == 0) {
                divisor = d;
            }
        }
        return (part == 0 ? above : below) / divisor;
    }

    private static boolean isClouded(int night, int cloud) {
        return cloud > 0 && night % cloud == cloud - 1;
    }

    private static boolean isIn(int x, int least, int most) {
        return x >= least && x <= most;
    }

    private static int bitOf(int bits, int i) {
        return bits >> i & 1;
    }

    private static int withBit(int bits, int i, boolean is) {
        return is ? bits | 1 << i : bits & ~(1 << i);
    }

    private static int at(int[] row, int i) {
        return i >= 0 && i < row.length ? row[i] : 0;
    }

    private static void put(int[] row, int i, int x) {
        if (i >= 0 && i < row.length) {
            row[i] = x;
        }
    }

    private static int swap(int[] row, int i, int x) {
        int was = at(row, i);
        put(row, i, x);
        return was;
    }

    private static void copy(int[] from, int[] to) {
        System.arraycopy(from, 0, to, 0, Math.min(from.length, to.length));
    }

    /** Rows of one number, or of three. */
    private static final class Rows {
        final int[] cells;
        final int most;
        final int width;
        int count = 0;

        Rows(int most, int width) {
            this.most = most;
            this.width = width;
            this.cells = new int[Math.max(most * width, 0)];
        }

        boolean isFull() {
            return count >= most;
        }

        /** A row of one number comes; beyond the most it is counted, not kept. */
        int tell(int number) {
            if (count >= 0 && count < cells.length) {
                cells[count] = number;
            }
            count++;
            return count;
        }

        /** A row of three numbers comes. */
        int add(int first, int second, int third) {
            put(cells, count * width, first);
            put(cells, count * width + 1, second);
            put(cells, count * width + 2, third);
            count++;
            return count;
        }

        int clear() {
            count = 0;
            return 0;
        }

        int cell(int row, int column) {
            return at(cells, row * width + column);
        }

        void become(Rows other) {
            count = other.count;
            copy(other.cells, cells);
        }
    }

    /** All that the image holds: lights, the sky that holds, nights, and what was told by hand. */
    private static final class Roof {
        int night = 0;
        int lights = 0;
        int skies = 0;
        int hidden = 0;
        final int[] seen = new int[2];
        final Star[] stars = new Star[MOST_LIGHTS];
        final int[] rounds = new int[MOST_LIGHTS];
        final int[] phases = new int[MOST_LIGHTS];
        final int[] rows = new int[MOST_LIGHTS * ROW_SIZE];
        final Sky sky = new Sky();
        final Rows tape = new Rows(MOST_SIGNS, 1);
        final Rows notes = new Rows(MOST_NOTES, 3);
        final Rows plans = new Rows(MOST_ROWS, 3);
        final Rows books = new Rows(MOST_ROWS, 3);

        void become(Roof other) {
            night = other.night;
            lights = other.lights;
            skies = other.skies;
            hidden = other.hidden;
            for (int i = 0; i < stars.length && i < other.stars.length; i++) {
                stars[i] = other.stars[i];
            }
            copy(other.seen, seen);
            copy(other.rounds, rounds);
            copy(other.phases, phases);
            copy(other.rows, rows);
            sky.become(other.sky);
            tape.become(other.tape);
            notes.become(other.notes);
            plans.become(other.plans);
            books.become(other.books);
        }

        void come(Star one, int round, int phase) {
            int place = lights;
            if (place < 0 || place >= stars.length) {
                return;
            }
            stars[place] = one;
            put(rounds, place, round);
            put(phases, place, phase);
            lights++;
        }

        /** The light of that number, or null. */
        Star starAt(int light) {
            return light >= 0 && light < lights && light < stars.length ? stars[light] : null;
        }

        int turnOf(int night) {
            return sky.turn > 0 ? night / sky.turn % 2 : 0;
        }

        boolean isUp(int light, int night, int hiddenBits) {
            Star one = starAt(light);
            return one != null && bitOf(hiddenBits, light) == 0
                && one.isOver(night, one.v, at(rounds, light), at(phases, light));
        }

        int upBits(int night) {
            int bits = 0;
            for (int light = 0; light < lights; light++) {
                bits = withBit(bits, light, isUp(light, night, hidden));
            }
            return bits;
        }

        int worthOf(Star one, int house, int night) {
            int told = at(rows, one.number * ROW_SIZE + night % ROW_SIZE);
            return Math.max(one.worthBy(sky.baseOf(one, house, night), house, told), 0);
        }

        /** What a night has for a house, were those lights hidden and that the cloud. */
        int hasFor(int house, int night, int hiddenBits, int cloud) {
            if (isClouded(night, cloud)) {
                return 0;
            }
            int sum = 0;
            for (int light = 0; light < lights; light++) {
                Star one = starAt(light);
                if (one != null && isUp(light, night, hiddenBits)) {
                    sum += worthOf(one, house, night);
                }
            }
            return sum;
        }
    }

    /** What a sky says: its turn, its cloud, and its dear and dim as steps, operands first. */
    private static final class Sky {
        static final int LESS = 0, SAME = 1, MORE = 2, NOT = 3, AND = 4, OR = 5, DEAR = 6, DIM = 7;

        final int[] steps = new int[MOST_SIGNS];
        final int[] signs = new int[MOST_SIGNS];
        final int[] numbers = new int[MOST_SIGNS];
        int size = 0;
        int turn = 1;
        int cloud = 0;

        void empty() {
            size = 0;
            turn = 1;
            cloud = 0;
        }

        void become(Sky other) {
            size = other.size;
            turn = other.turn;
            cloud = other.cloud;
            copy(other.steps, steps);
            copy(other.signs, signs);
            copy(other.numbers, numbers);
        }

        void add(int step, int sign, int number) {
            put(steps, size, step);
            put(signs, size, sign);
            put(numbers, size, number);
            size++;
        }

        /** The dear that hold less the dim that hold; what is open of a clause stands in bits, the newest lowest. */
        int baseOf(Star one, int house, int night) {
            int sum = 0;
            int bits = 0;
            for (int i = 0; i < size; i++) {
                int number = at(numbers, i);
                switch (at(steps, i)) {
                    case NOT: bits ^= 1; break;
                    case AND: bits = bits >> 1 & (bits | ~1); break;
                    case OR: bits = bits >> 1 | bits & 1; break;
                    case DEAR: sum += number * (bits & 1); bits = 0; break;
                    case DIM: sum -= number * (bits & 1); bits = 0; break;
                    case LESS: bits = bits << 1 | (factOf(at(signs, i), one, house, night) < number ? 1 : 0); break;
                    case MORE: bits = bits << 1 | (factOf(at(signs, i), one, house, night) > number ? 1 : 0); break;
                    default: bits = bits << 1 | (factOf(at(signs, i), one, house, night) == number ? 1 : 0); break;
                }
            }
            return sum;
        }

        static int factOf(int sign, Star one, int house, int night) {
            switch (sign) {
                case 'p': return one.number;
                case 'k': return one.kind;
                case 'v': return one.v;
                case 'h': return house;
                case 'n': return night % 10;
                default: return night % 7;
            }
        }
    }

    /** Reads a sky from the tape, sign by sign; behind a fault there is nothing more to read. */
    private static final class SkyReader {
        static final int END = -1, NO_FAULT = -1;

        final Rows tape;
        final Sky sky = new Sky();
        int place = 0;
        int next = END;
        int fault = NO_FAULT;

        SkyReader(Rows tape) {
            this.tape = tape;
        }

        /** The fault's place, or NO_FAULT: then the sky is read. */
        int read() {
            sky.empty();
            fault = NO_FAULT;
            goTo(0);
            readClause();
            for (int n = 1; n < MOST_CLAUSES && next == ';'; n++) {
                goTo(place + 1);
                readClause();
            }
            if (next != END) {
                fail();
            }
            return fault;
        }

        void goTo(int sign) {
            place = sign;
            next = place < tape.count ? at(tape.cells, place) : END;
        }

        void fail() {
            fault = fault == NO_FAULT ? place : fault;
            next = END;
        }

        void take(int sign) {
            if (next == sign) {
                goTo(place + 1);
            } else {
                fail();
            }
        }

        void takeWord(String word) {
            for (int i = 0; i < word.length(); i++) {
                take(word.charAt(i));
            }
        }

        int takeNumber() {
            if (next < '0' || next > '9') {
                fail();
                return 0;
            }
            int number = next - '0';
            goTo(place + 1);
            if (number != 0 && next >= '0' && next <= '9') {
                number = number * 10 + next - '0';
                goTo(place + 1);
            }
            return number;
        }

        void readClause() {
            switch (next) {
                case 't':
                    takeWord("turn ");
                    sky.turn = Math.max(takeNumber(), 1);
                    break;
                case 'c':
                    takeWord("cloud ");
                    sky.cloud = takeNumber();
                    break;
                case 'd':
                    goTo(place + 1);
                    boolean isDim = next == 'i';
                    takeWord(isDim ? "im " : "ear ");
                    int number = takeNumber();
                    take(' ');
                    readEither(0);
                    sky.add(isDim ? Sky.DIM : Sky.DEAR, 0, number);
                    break;
                default:
                    fail();
            }
        }

        // open tells how many of ! and ( are open

        private void readEither(int open) {
            readBoth(open);
            for (int n = 0; n < MOST_SIGNS && next == '|'; n++) {
                goTo(place + 1);
                readBoth(open);
                sky.add(Sky.OR, 0, 0);
            }
        }

        private void readBoth(int open) {
            readFactor(open);
            for (int n = 0; n < MOST_SIGNS && next == '&'; n++) {
                goTo(place + 1);
                readFactor(open);
                sky.add(Sky.AND, 0, 0);
            }
        }

        private void readFactor(int open) {
            if (next != '!' && next != '(') {
                readTest();
            } else if (open >= MOST_OPEN) {
                fail();
            } else if (next == '!') {
                goTo(place + 1);
                readFactor(open + 1);
                sky.add(Sky.NOT, 0, 0);
            } else {
                goTo(place + 1);
                readEither(open + 1);
                take(')');
            }
        }

        private void readTest() {
            int sign = next;
            switch (sign) {
                case 'p': case 'k': case 'v': case 'h': case 'n': case 'm':
                    goTo(place + 1);
                    break;
                default:
                    fail();
            }
            int step = next == '<' ? Sky.LESS : next == '>' ? Sky.MORE : Sky.SAME;
            take(step == Sky.LESS ? '<' : step == Sky.MORE ? '>' : '=');
            sky.add(step, sign, takeNumber());
        }
    }

    /** A light: what never changes of it, and the laws of its kind. */
    private static class Star {
        final int kind;
        final int number;
        final int v;
        final Rows trace;

        Star(int kind, int number, int v, Rows trace) {
            this.kind = kind;
            this.number = number;
            this.v = v;
            this.trace = trace;
        }

        boolean isOver(int night, int itsV, int round, int phase) {
            return round > 0 && (night + phase) % round == 0;
        }

        int worthBy(int base, int house, int told) {
            return 5 + base;
        }

        int glows(int x) {
            trace.tell(1);
            return x + number;
        }

        int claims(int x) {
            trace.tell(2);
            return glows(x) - v;
        }

        int tells(int x) {
            trace.tell(3);
            return claims(x) * 2;
        }
    }

    private static class Moon extends Star {
        Moon(int kind, int number, int v, Rows trace) {
            super(kind, number, v, trace);
        }

        boolean isOver(int night, int itsV, int round, int phase) {
            return round == 1 || round > 0 && (night + phase) % round < round / 2;
        }

        int worthBy(int base, int house, int told) {
            return 2 + base;
        }

        int glows(int x) {
            trace.tell(11);
            return super.glows(x * 3);
        }
    }

    private static class Comet extends Star {
        Comet(int kind, int number, int v, Rows trace) {
            super(kind, number, v, trace);
        }

        boolean isOver(int night, int itsV, int round, int phase) {
            return night >= 10 * itsV && super.isOver(night, itsV, round, phase);
        }

        int claims(int x) {
            trace.tell(21);
            return -super.claims(x);
        }
    }

    private static class Nebula extends Star {
        Nebula(int kind, int number, int v, Rows trace) {
            super(kind, number, v, trace);
        }

        int worthBy(int base, int house, int told) {
            return base + v;
        }

        int tells(int x) {
            trace.tell(31);
            return super.tells(x) ^ 7;
        }
    }

    private static final class Twin extends Moon {
        Twin(int kind, int number, int v, Rows trace) {
            super(kind, number, v, trace);
        }

        boolean isOver(int night, int itsV, int round, int phase) {
            return super.isOver(night, itsV, round, phase) || round > 0 && (night + phase) % round == 0;
        }

        int worthBy(int base, int house, int told) {
            return super.worthBy(base, house, told) * 2;
        }

        int tells(int x) {
            trace.tell(41);
            return super.tells(x - 1) + glows(2);
        }
    }

    private static final class Guest extends Comet {
        Guest(int kind, int number, int v, Rows trace) {
            super(kind, number, v, trace);
        }

        boolean isOver(int night, int itsV, int round, int phase) {
            return night % 7 != 0 && super.isOver(night, itsV, round, phase);
        }

        int worthBy(int base, int house, int told) {
            return super.worthBy(base, house, told) + (house == 1 ? v : 0);
        }

        int glows(int x) {
            trace.tell(51);
            return super.glows(x) ^ number;
        }
    }

    private static final class Told extends Nebula {
        Told(int kind, int number, int v, Rows trace) {
            super(kind, number, v, trace);
        }

        int worthBy(int base, int house, int told) {
            return super.worthBy(base, house, told) + told;
        }

        int claims(int x) {
            trace.tell(61);
            return super.claims(x) + v;
        }
    }
}
