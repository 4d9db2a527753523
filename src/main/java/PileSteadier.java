import java.util.Arrays;

/** Boxes in a truck: what each rests on, who stands, and in which orders they can be taken to the door. */
public final class PileSteadier {
    public static final int NONE = -1, BAD = -2, STATE = -3, FULL = -4;
    public static final long NO = Long.MIN_VALUE;

    private static final int MISSING = -11, OUTSIDE = -12, UNLIKE = -13, NEGATIVE = -14;
    private static final int FAULTY = -100;

    private static final int CRATE = 0, FRAGILE = 1, HEAVY = 2, GLASS = 3, DRUM = 4, SAFE = 5;
    private static final int KINDS = 6, FIGURES = 10;
    private static final int[] KIND_ABOVE = {NONE, CRATE, CRATE, FRAGILE, CRATE, HEAVY};

    private static final int BOXES = 7, SETS = 1 << BOXES;
    private static final int FLOOR = 8, HIGHEST = 12, LONGEST = 4, HEAVIEST = 999;

    private static final int FALLS = 1, CRUSHED = 2, TIPS = 3, SLIDES = 4;
    private static final int SIDES = 4, TILTS = 100, BUMP_TILTS = 60;
    private static final int MOST_BUMPS = 30, MOST_SEEDS = 20;

    private static final int TAPE = 60, FED_AT_ONCE = 5;
    /** "off0;" is the shortest clause, so that no more than these can begin on a tape. */
    private static final int CLAUSES = TAPE / 5 + 1;
    private static final int WORD_BOX = 0, WORD_KIND = 1, WORD_WEIGH = 2, WORD_OFF = 3;
    private static final int[] NUMBERS_BEHIND = {5, 3, 3, 1};
    private static final int MOST_NUMBERS = 5, LONGEST_NUMBER = 3;

    private static final int SHEETS = 4, LONGEST_SHEET = 40, BYTES = 0, INTS = 1;
    private static final int NUMBERS_A_BOX = 5;

    private final Pile pile = new Pile();
    private final Pile image = new Pile();
    /** Where what would be is tried out, so that the true pile is never touched by a thought. */
    private final Pile thought = new Pile();
    private final Balance balance = new Balance();
    private final Door door = new Door();
    private final Tape tape = new Tape();
    private final Sheet[] sheets = new Sheet[SHEETS];
    private boolean imageKept = false;

    public PileSteadier() {
        for (int i = 0; i < sheets.length; i++) sheets[i] = new Sheet();
    }

    // ---- boxes

    public int box(int kind, int x, int y, int size, int weight) {
        return pile.receive(kind, x, y, size, weight);
    }

    public int of(int box, int what) {
        if (!pile.knows(box)) return BAD;
        Box it = pile.boxes[box];
        switch (what) {
            case 0: return it.kind;
            case 1: return it.figure;
            case 2: return it.x;
            case 3: return it.y;
            case 4: return it.z;
            case 5: return it.size();
            case 6: return it.weight;
            case 7: return pile.has(box) ? 0 : 1;
            case 8: return it.bears();
            case 9: return it.grip();
            default: return BAD;
        }
    }

    public int kind(int box, int kind, int figure) {
        if (!pile.has(box) || !isKind(kind) || figure < 0 || figure >= FIGURES) return BAD;
        Box it = pile.boxes[box];
        int was = 10 * it.kind + it.figure;
        it.kind = kind;
        it.figure = figure;
        return was;
    }

    public int weigh(int box, int n, int each) {
        if (!pile.has(box)) return BAD;
        long weight = (long) n * each;
        if (weight != (int) weight) return FULL;
        if (!isWeight(weight)) return BAD;
        Box it = pile.boxes[box];
        int was = it.weight;
        it.weight = (int) weight;
        return was;
    }

    public int taken(int box, int k) {
        if (!pile.has(box) || !isKind(k)) return BAD;
        Box it = pile.boxes[box];
        return it.isOfKind(k) ? it.bears() : UNLIKE;
    }

    public int off(int box) {
        if (!pile.has(box)) return BAD;
        door.begin();
        if ((door.freeIn(pile, pile.there) & 1 << box) == 0) return STATE;
        pile.there &= ~(1 << box);
        return Integer.bitCount(pile.there);
    }

    // ---- contacts, loads, centres

    public int on(int box, int what) {
        if (!pile.has(box)) return BAD;
        switch (what) {
            case 0: return pile.below(box, pile.there);
            case 1: return pile.above(box, pile.there);
            default: return BAD;
        }
    }

    public int contact(int box, int other) {
        if (!isBoxAndOther(box, other)) return BAD;
        return other == NONE ? pile.boxes[box].floorContact() : pile.contacts[box][other];
    }

    public int load(int box) {
        if (!pile.has(box)) return BAD;
        settle();
        return balance.loads[box];
    }

    public int hands(int box, int other) {
        if (!isBoxAndOther(box, other)) return BAD;
        settle();
        return other == NONE ? balance.toFloor(box) : balance.parts[box][other];
    }

    public long centre(int box, int axis, int part) {
        if (!pile.has(box) || !isAxis(axis) || !isPart(part)) return NO;
        settle();
        long moment = axis == 0 ? balance.momentsX[box] : balance.momentsY[box];
        return lowest(moment, 20L * balance.heft(box), part);
    }

    public int corner(int box, int k, int axis) {
        if (!pile.has(box) || !isAxis(axis)) return BAD;
        settle();
        Polygon polygon = balance.polygons[box];
        if (k < NONE || k >= polygon.corners) return OUTSIDE;
        if (k == NONE) return polygon.corners;
        return axis == 0 ? polygon.cornerX[k] : polygon.cornerY[k];
    }

    public int lies(int box) {
        if (!pile.has(box)) return BAD;
        settle();
        return balance.placed(box, 0, 0);
    }

    // ---- who stands

    public int stands(int what) {
        settle();
        switch (what) {
            case 0: return balance.whoFailsBy(FALLS);
            case 1: return balance.whoFailsBy(CRUSHED);
            case 2: return balance.whoFailsBy(TIPS);
            case 3: return balance.whoFailsBy(0);
            case 4: return pile.there;
            default: return BAD;
        }
    }

    public int fails(int what) {
        settle();
        int fail = firstIn(balance.failing(0, 0));
        int cause = fail == NONE ? NONE : balance.heaviestOn(fail);
        int causes = 0, root = NONE, next = cause;
        for (int i = 0; i < BOXES && next != NONE; i++) {
            root = next;
            causes++;
            next = balance.heaviestOn(next);
        }
        switch (what) {
            case 0: return fail;
            case 1: return fail == NONE ? 0 : balance.why(fail, 0, 0);
            case 2: return cause;
            case 3: return causes;
            case 4: return root;
            default: return BAD;
        }
    }

    public int tilt(int side, int t) {
        if (!isSide(side) || t < 0 || t >= TILTS) return BAD;
        settle();
        return balance.failing(side, t);
    }

    public int most(int side) {
        if (!isSide(side)) return BAD;
        settle();
        for (int t = TILTS - 1; t >= 0; t--) {
            if (balance.failing(side, t) == 0) return t;
        }
        return NONE;
    }

    // ---- to the door

    public int free() {
        door.begin();
        return door.freeIn(pile, pile.there);
    }

    public int way(int box) {
        return pile.has(box) ? pile.inWay(box, pile.there) : BAD;
    }

    public int order(int k) {
        if (k < NONE || k >= Integer.bitCount(pile.there)) return OUTSIDE;
        int orders = door.findOrders(pile);
        if (k == NONE) return orders;
        return orders == 0 ? NONE : door.first[k];
    }

    // ---- in thought

    public int without(int box) {
        if (!pile.has(box)) return BAD;
        balance.settle(pile, pile.there & ~(1 << box));
        return balance.failing(0, 0);
    }

    public int spot(int size, int weight, int what) {
        if (!isSize(size) || !isWeight(weight) || (what != 0 && what != 1)) return BAD;
        if (pile.came >= BOXES) return FULL;
        int first = NONE, many = 0;
        for (int place = 0; place < FLOOR * FLOOR; place++) {
            if (!wouldStandAt(place, size, weight)) continue;
            if (first == NONE) first = place;
            many++;
        }
        return what == 0 ? first : many;
    }

    public int bumps(int seed, int n) {
        if (n < 1 || n > MOST_BUMPS) return BAD;
        settle();
        return firstFailingBump(seed, n);
    }

    public int chance(int seed, int m, int n, int part) {
        if (m < 1 || m > MOST_SEEDS || n < 1 || n > MOST_BUMPS || !isPart(part)) return BAD;
        settle();
        int borne = 0;
        for (int i = 0; i < m; i++) {
            if (firstFailingBump(seed + i, n) == NONE) borne++;
        }
        return (int) lowest(borne, m, part);
    }

    // ---- texts

    public int feed(int n, int a, int b, int c, int d, int e) {
        if (n < 1 || n > FED_AT_ONCE) return BAD;
        if (!isByte(a) || !isByte(b) || !isByte(c) || !isByte(d) || !isByte(e)) return BAD;
        if (tape.size + n > TAPE) return FULL;
        tape.append(a);
        if (n > 1) tape.append(b);
        if (n > 2) tape.append(c);
        if (n > 3) tape.append(d);
        if (n > 4) tape.append(e);
        return tape.size;
    }

    public int text() {
        int fault = tape.read();
        tape.size = 0;
        if (fault != NONE) return FAULTY - fault;
        int done = 0;
        for (int i = 0; i < tape.clauses; i++) {
            int[] n = tape.numbers[i];
            int answer;
            switch (tape.words[i]) {
                case WORD_BOX: answer = box(n[0], n[1], n[2], n[3], n[4]); break;
                case WORD_KIND: answer = kind(n[0], n[1], n[2]); break;
                case WORD_WEIGH: answer = weigh(n[0], n[1], n[2]); break;
                default: answer = off(n[0]);
            }
            if (answer >= 0) done++;
        }
        return done;
    }

    // ---- what was told

    public int tells(int sheet, int what) {
        if (what >= 10 && what - 10 < BOXES) return standingKinds(what - 10);
        if ((what != 0 && what != 1) || !isSheet(sheet)) return BAD;
        Sheet told = sheets[sheet];
        if (told.isMissing()) return MISSING;
        door.begin();
        int left = pile.there;
        for (int i = 0; i < told.size; i++) {
            int box = told.items[i];
            boolean free = box >= 0 && box < BOXES && (door.freeIn(pile, left) & 1 << box) != 0;
            if (!free) return what == 0 ? i : left;
            left &= ~(1 << box);
        }
        return what == 0 ? NONE : left;
    }

    public int film(int sheet) {
        if (!isSheet(sheet)) return BAD;
        if (door.findOrders(pile) == 0) return NONE;
        int many = Integer.bitCount(pile.there);
        sheets[sheet].become(BYTES, many);
        for (int i = 0; i < many; i++) sheets[sheet].items[i] = door.first[i];
        return many;
    }

    public int comes(int sheet, int sort, int from, int n) {
        if (!isSheet(sheet) || (sort != BYTES && sort != INTS) || n < 0 || n > BOXES) return BAD;
        Sheet row = sheets[sheet];
        if (row.isMissing()) return MISSING;
        if (row.sort != sort) return UNLIKE;
        int came = 0;
        for (int i = 0; i < n; i++) {
            long at = from + (long) i * NUMBERS_A_BOX;
            if (at < 0 || at + NUMBERS_A_BOX > row.size) return OUTSIDE;
            int k = (int) at;
            int[] items = row.items;
            if (box(items[k], items[k + 1], items[k + 2], items[k + 3], items[k + 4]) >= 0) came++;
        }
        return came;
    }

    public int image() {
        image.become(pile);
        imageKept = true;
        return pile.came;
    }

    public int back() {
        if (!imageKept) return STATE;
        pile.become(image);
        return pile.came;
    }

    public int count(int what) {
        switch (what) {
            case 0: return pile.came;
            case 1: return Integer.bitCount(pile.there);
            case 2: return tape.size;
            case 3: return pile.weightOfAll();
            case 4: return pile.restingPairs();
            case 5:
                settle();
                return balance.allToFloor();
            default: return BAD;
        }
    }

    // ---- the host

    public int sheet(int sheet, int sort, int n) {
        if (!isSheet(sheet) || (sort != NONE && sort != BYTES && sort != INTS)) return BAD;
        if (sort == NONE) {
            sheets[sheet].become(NONE, 0);
            return 1;
        }
        if (n > LONGEST_SHEET) return BAD;
        if (n < 0) return NEGATIVE;
        sheets[sheet].become(sort, n);
        return 1;
    }

    public int put(int sheet, int i, int v) {
        if (!isSheet(sheet)) return BAD;
        Sheet row = sheets[sheet];
        if (row.isMissing()) return MISSING;
        if (i < 0 || i >= row.size) return OUTSIDE;
        row.items[i] = row.sort == BYTES ? v & 255 : v;
        return 1;
    }

    public int copy(int sheet, int i, int other, int j, int n) {
        if (!isSheet(sheet) || !isSheet(other)) return BAD;
        Sheet from = sheets[sheet], to = sheets[other];
        if (from.isMissing() || to.isMissing()) return MISSING;
        if (from.sort != to.sort) return UNLIKE;
        if (!from.holds(i, n) || !to.holds(j, n)) return OUTSIDE;
        System.arraycopy(from.items, i, to.items, j, n);
        return n;
    }

    // ---- what several calls share

    private static boolean isKind(int kind) {
        return kind >= 0 && kind < KINDS;
    }

    private static boolean isWeight(long weight) {
        return weight >= 1 && weight <= HEAVIEST;
    }

    private static boolean isSize(int size) {
        return isLength(size / 100) && isLength(size / 10 % 10) && isLength(size % 10);
    }

    private static boolean isLength(int length) {
        return length >= 1 && length <= LONGEST;
    }

    private static boolean isAxis(int axis) {
        return axis == 0 || axis == 1;
    }

    private static boolean isPart(int part) {
        return part == 0 || part == 1;
    }

    private static boolean isSide(int side) {
        return side >= 0 && side < SIDES;
    }

    private static boolean isByte(int value) {
        return value >= 0 && value <= 255;
    }

    private static boolean isSheet(int sheet) {
        return sheet >= 0 && sheet < SHEETS;
    }

    private boolean isBoxAndOther(int box, int other) {
        return pile.has(box) && other != box && (other == NONE || pile.has(other));
    }

    private void settle() {
        balance.settle(pile, pile.there);
    }

    private boolean wouldStandAt(int place, int size, int weight) {
        thought.become(pile);
        if (thought.receive(CRATE, place % FLOOR, place / FLOOR, size, weight) < 0) return false;
        balance.settle(thought, thought.there);
        return balance.failing(0, 0) == 0;
    }

    private int standingKinds(int box) {
        if (!pile.has(box)) return BAD;
        thought.become(pile);
        int kinds = 0;
        for (int kind = 0; kind < KINDS; kind++) {
            thought.boxes[box].kind = kind;
            balance.settle(thought, thought.there);
            if (balance.failing(0, 0) == 0) kinds |= 1 << kind;
        }
        return kinds;
    }

    private int firstFailingBump(int seed, int n) {
        int z = seed;
        for (int i = 0; i < n; i++) {
            z = nextDrawn(z);
            int side = (z >>> 9) % SIDES;
            z = nextDrawn(z);
            int t = (z >>> 9) % BUMP_TILTS;
            if (balance.failing(side, t) != 0) return i;
        }
        return NONE;
    }

    private static int nextDrawn(int z) {
        return z * 1103515245 + 12345;
    }

    private static long lowest(long above, long below, int part) {
        long divisor = below, rest = above;
        // Euclid's steps over longs stay under a hundred.
        for (int i = 0; i < 100 && rest != 0; i++) {
            long next = divisor % rest;
            divisor = rest;
            rest = next;
        }
        if (divisor == 0) return NO;
        return (part == 0 ? above : below) / divisor;
    }

    private static int firstIn(int set) {
        for (int b = 0; b < BOXES; b++) {
            if (isIn(b, set)) return b;
        }
        return NONE;
    }

    private static boolean isIn(int box, int set) {
        return (set >> box & 1) == 1;
    }

    /** One box: where it stands, and what its kind makes of its figure. */
    private static final class Box {
        private int kind, figure, x, y, z, w, d, h, weight;

        void become(Box other) {
            kind = other.kind;
            figure = other.figure;
            x = other.x;
            y = other.y;
            z = other.z;
            w = other.w;
            d = other.d;
            h = other.h;
            weight = other.weight;
        }

        int top() {
            return z + h;
        }

        int size() {
            return 100 * w + 10 * d + h;
        }

        int left(Box other) {
            return x > other.x ? x : other.x;
        }

        int right(Box other) {
            return x + w < other.x + other.w ? x + w : other.x + other.w;
        }

        int near(Box other) {
            return y > other.y ? y : other.y;
        }

        int far(Box other) {
            return y + d < other.y + other.d ? y + d : other.y + other.d;
        }

        boolean meetsAlongY(Box other) {
            return near(other) < far(other);
        }

        boolean meetsInHeight(Box other) {
            return z < other.top() && other.z < top();
        }

        /** How great what the areas have in common is; 0, if it is an edge or nothing. */
        int areaWith(Box other) {
            int along = right(other) - left(other), across = far(other) - near(other);
            return along > 0 && across > 0 ? along * across : 0;
        }

        boolean isOnFloor() {
            return z == 0;
        }

        int floorContact() {
            return isOnFloor() ? w * d : 0;
        }

        boolean isOfKind(int sought) {
            int at = kind;
            for (int i = 0; i < KINDS && at >= 0 && at < KIND_ABOVE.length; i++) {
                if (at == sought) return true;
                at = KIND_ABOVE[at];
            }
            return false;
        }

        int bears() {
            switch (kind) {
                case FRAGILE: return 20 * figure;
                case GLASS: return 20 * figure / 2;
                case HEAVY:
                case SAFE: return 2 * (600 + 100 * figure);
                case DRUM: return 300;
                default: return 600 + 100 * figure;
            }
        }

        int grip() {
            switch (kind) {
                case GLASS: return 50;
                case HEAVY: return 60 + figure;
                case SAFE: return 80 + figure;
                case DRUM: return 5 + figure;
                default: return 60;
            }
        }

        /** The own centre along X in 20ths, so that it is whole for every kind. */
        int ownCentreX() {
            int middle = 20 * x + 10 * w;
            if (kind == HEAVY) return middle + figure * w;
            return kind == SAFE ? middle - figure * w : middle;
        }

        int ownCentreY() {
            int middle = 20 * y + 10 * d;
            return kind == DRUM ? middle + figure * d : middle;
        }
    }

    /** The boxes that came, and which of them are there. */
    private static final class Pile {
        private final Box[] boxes = new Box[BOXES];
        /** How great the contact is by which the first rests on the second, were both there. */
        private final int[][] contacts = new int[BOXES][BOXES];
        private int came = 0, there = 0;

        Pile() {
            for (int b = 0; b < boxes.length; b++) boxes[b] = new Box();
        }

        void become(Pile other) {
            for (int b = 0; b < BOXES; b++) {
                boxes[b].become(other.boxes[b]);
                System.arraycopy(other.contacts[b], 0, contacts[b], 0, BOXES);
            }
            came = other.came;
            there = other.there;
        }

        boolean knows(int box) {
            return box >= 0 && box < came && box < BOXES;
        }

        boolean has(int box) {
            return knows(box) && isIn(box, there);
        }

        int receive(int kind, int x, int y, int size, int weight) {
            if (!isKind(kind) || !isSize(size) || !isWeight(weight)) return BAD;
            int w = size / 100, d = size / 10 % 10;
            if (x < 0 || x > FLOOR - w || y < 0 || y > FLOOR - d) return BAD;
            if (came >= BOXES) return FULL;
            // The place behind the last box is nobody's yet, so that a refusal may leave it written.
            Box box = boxes[came];
            box.kind = kind;
            box.figure = 0;
            box.x = x;
            box.y = y;
            box.w = w;
            box.d = d;
            box.h = size % 10;
            box.weight = weight;
            box.z = greatestTopUnder(box);
            if (box.top() > HIGHEST) return STATE;
            noteContacts(came);
            there |= 1 << came;
            return came++;
        }

        private int greatestTopUnder(Box box) {
            int top = 0;
            for (int a = 0; a < came; a++) {
                if (isIn(a, there) && boxes[a].areaWith(box) > 0) top = Math.max(top, boxes[a].top());
            }
            return top;
        }

        /** A later box lies above every box that it meets: none that came before rests on it. */
        private void noteContacts(int box) {
            for (int a = 0; a < BOXES; a++) {
                boolean rests = a < box && boxes[a].top() == boxes[box].z;
                contacts[box][a] = rests ? boxes[box].areaWith(boxes[a]) : 0;
                contacts[a][box] = 0;
            }
        }

        int below(int box, int present) {
            int set = 0;
            for (int a = 0; a < BOXES; a++) {
                if (isIn(a, present) && contacts[box][a] > 0) set |= 1 << a;
            }
            return set;
        }

        int above(int box, int present) {
            int set = 0;
            for (int a = 0; a < BOXES; a++) {
                if (isIn(a, present) && contacts[a][box] > 0) set |= 1 << a;
            }
            return set;
        }

        int inWay(int box, int present) {
            Box it = boxes[box];
            int set = 0;
            for (int a = 0; a < BOXES; a++) {
                Box other = boxes[a];
                boolean ahead = isIn(a, present) && a != box && other.x >= it.x + it.w;
                if (ahead && other.meetsAlongY(it) && other.meetsInHeight(it)) set |= 1 << a;
            }
            return set;
        }

        int weightOfAll() {
            int sum = 0;
            for (int b = 0; b < BOXES; b++) {
                if (isIn(b, there)) sum += boxes[b].weight;
            }
            return sum;
        }

        int restingPairs() {
            int pairs = 0;
            for (int b = 0; b < BOXES; b++) {
                if (isIn(b, there)) pairs += Integer.bitCount(below(b, there));
            }
            return pairs;
        }
    }

    /** What the present boxes of a pile hand down, and who of them stands. */
    private static final class Balance {
        private final int[] loads = new int[BOXES];
        private final int[][] parts = new int[BOXES][BOXES];
        /** Weights times places, in 20ths: of the own weight and of each part that comes from above. */
        private final long[] momentsX = new long[BOXES], momentsY = new long[BOXES];
        private final Polygon[] polygons = new Polygon[BOXES];
        private Pile pile = new Pile();
        private int present = 0;

        Balance() {
            for (int b = 0; b < polygons.length; b++) polygons[b] = new Polygon();
        }

        void settle(Pile settled, int boxes) {
            pile = settled;
            present = boxes;
            for (int b = 0; b < BOXES; b++) {
                Box box = pile.boxes[b];
                loads[b] = 0;
                Arrays.fill(parts[b], 0);
                momentsX[b] = (long) box.weight * box.ownCentreX();
                momentsY[b] = (long) box.weight * box.ownCentreY();
            }
            // Who rests on a box came later: downwards, each load is whole before it is handed on.
            for (int b = BOXES - 1; b >= 0; b--) {
                if (!isIn(b, present)) continue;
                handDown(b);
                outline(b);
            }
        }

        private void handDown(int box) {
            int[] contacts = pile.contacts[box];
            int below = pile.below(box, present), whole = 0;
            for (int a = 0; a < BOXES; a++) {
                if (isIn(a, below)) whole += contacts[a];
            }
            if (whole == 0) return;
            int left = heft(box);
            for (int a = 0; a < BOXES; a++) {
                if (!isIn(a, below)) continue;
                parts[box][a] = heft(box) * contacts[a] / whole;
                left -= parts[box][a];
            }
            for (int a = 0; a < BOXES; a++) {
                if (!isIn(a, below)) continue;
                if (left > 0) parts[box][a]++;
                left--;
                takeOn(a, box);
            }
        }

        private void takeOn(int box, int from) {
            Box it = pile.boxes[box], upper = pile.boxes[from];
            int part = parts[from][box];
            loads[box] += part;
            momentsX[box] += 10L * part * (it.left(upper) + it.right(upper));
            momentsY[box] += 10L * part * (it.near(upper) + it.far(upper));
        }

        private void outline(int box) {
            Polygon polygon = polygons[box];
            Box it = pile.boxes[box];
            polygon.clear();
            if (it.isOnFloor()) polygon.add(it, it);
            for (int a = 0; a < BOXES; a++) {
                if (isIn(a, present) && pile.contacts[box][a] > 0) polygon.add(it, pile.boxes[a]);
            }
            polygon.wrap();
        }

        int heft(int box) {
            return pile.boxes[box].weight + loads[box];
        }

        int toFloor(int box) {
            return pile.boxes[box].isOnFloor() ? heft(box) : 0;
        }

        int allToFloor() {
            int sum = 0;
            for (int b = 0; b < BOXES; b++) {
                if (isIn(b, present)) sum += toFloor(b);
            }
            return sum;
        }

        /** Whether the centre, moved by a tilt, is within the polygon (2), on its edge (1) or outside (0). */
        int placed(int box, int side, int t) {
            Box it = pile.boxes[box];
            long x = 10 * momentsX[box], y = 10 * momentsY[box];
            long moved = (long) t * it.h * (it.weight + 2L * loads[box]);
            switch (side) {
                case 0: x += moved; break;
                case 1: x -= moved; break;
                case 2: y += moved; break;
                default: y -= moved;
            }
            return polygons[box].holds(x, y, 200L * heft(box));
        }

        /** Why a box doesn't stand by a tilt; 0: it stands. */
        int why(int box, int side, int t) {
            Box it = pile.boxes[box];
            if (polygons[box].corners == 0) return FALLS;
            if (loads[box] > it.bears()) return CRUSHED;
            if (placed(box, side, t) == 0) return TIPS;
            return t > it.grip() ? SLIDES : 0;
        }

        int failing(int side, int t) {
            int set = 0;
            for (int b = 0; b < BOXES; b++) {
                if (isIn(b, present) && why(b, side, t) != 0) set |= 1 << b;
            }
            return set;
        }

        int whoFailsBy(int reason) {
            int set = 0;
            for (int b = 0; b < BOXES; b++) {
                if (isIn(b, present) && why(b, 0, 0) == reason) set |= 1 << b;
            }
            return set;
        }

        int heaviestOn(int box) {
            int above = pile.above(box, present), heaviest = NONE;
            for (int c = 0; c < BOXES; c++) {
                if (!isIn(c, above)) continue;
                if (heaviest == NONE || parts[c][box] > parts[heaviest][box]) heaviest = c;
            }
            return heaviest;
        }
    }

    /** The least convex polygon that has all the rectangles added. */
    private static final class Polygon {
        private final int[] pointX = new int[4 * BOXES], pointY = new int[4 * BOXES];
        private final int[] cornerX = new int[4 * BOXES], cornerY = new int[4 * BOXES];
        private int points = 0, corners = 0;

        void clear() {
            points = 0;
            corners = 0;
        }

        /** Adds the rectangle that two boxes' areas have in common. */
        void add(Box one, Box other) {
            if (points + 4 > pointX.length) return;
            for (int i = 0; i < 4; i++) {
                pointX[points] = i < 2 ? one.left(other) : one.right(other);
                pointY[points] = i % 2 == 0 ? one.near(other) : one.far(other);
                points++;
            }
        }

        void wrap() {
            if (points == 0) return;
            int first = 0;
            for (int p = 1; p < points; p++) {
                boolean lefter = pointX[p] < pointX[first];
                if (lefter || pointX[p] == pointX[first] && pointY[p] < pointY[first]) first = p;
            }
            int at = first;
            while (corners < points) {
                cornerX[corners] = pointX[at];
                cornerY[corners] = pointY[at];
                corners++;
                at = nextRound(at);
                if (pointX[at] == pointX[first] && pointY[at] == pointY[first]) return;
            }
        }

        /** The point that leaves none to the right; of several in one line the farthest, as corners aren't on edges. */
        private int nextRound(int at) {
            int next = at;
            for (int p = 0; p < points; p++) {
                int nextX = pointX[next] - pointX[at], nextY = pointY[next] - pointY[at];
                int x = pointX[p] - pointX[at], y = pointY[p] - pointY[at];
                int turn = nextX * y - nextY * x;
                boolean farther = x * x + y * y > nextX * nextX + nextY * nextY;
                if (turn < 0 || turn == 0 && farther) next = p;
            }
            return next;
        }

        /** Whether a point (told as two numbers above one line) is within (2), on the edge (1) or outside (0). */
        int holds(long x, long y, long below) {
            int found = corners == 0 ? 0 : 2;
            for (int k = 0; k < corners; k++) {
                int next = k + 1 < corners ? k + 1 : 0;
                long alongX = cornerX[next] - cornerX[k], alongY = cornerY[next] - cornerY[k];
                long turn = alongX * (y - cornerY[k] * below) - alongY * (x - cornerX[k] * below);
                if (turn < 0) return 0;
                if (turn == 0) found = 1;
            }
            return found;
        }
    }

    /** Which boxes can be taken to the door, and in which orders all can. */
    private static final class Door {
        private static final int UNKNOWN = -1;

        private final Balance balance = new Balance();
        /** By the set of the boxes that are left: who fails then, who is free then, how many orders take all. */
        private final int[] failing = new int[SETS], free = new int[SETS], orders = new int[SETS];
        private final int[] first = new int[BOXES];

        /** What was found holds only as long as the boxes are as they are. */
        void begin() {
            Arrays.fill(failing, UNKNOWN);
        }

        int freeIn(Pile pile, int left) {
            int set = 0;
            for (int b = 0; b < BOXES; b++) {
                int rest = left & ~(1 << b);
                if (!isIn(b, left) || pile.above(b, left) != 0 || pile.inWay(b, left) != 0) continue;
                if (failing[rest] == UNKNOWN) {
                    balance.settle(pile, rest);
                    failing[rest] = balance.failing(0, 0);
                }
                if (failing[rest] == 0) set |= 1 << b;
            }
            return set;
        }

        int findOrders(Pile pile) {
            begin();
            findFree(pile);
            orders[0] = 1;
            for (int left = 1; left <= pile.there; left++) {
                orders[left] = 0;
                for (int b = 0; b < BOXES && free[left] != UNKNOWN; b++) {
                    if (isIn(b, free[left])) orders[left] += orders[left & ~(1 << b)];
                }
            }
            findFirst(pile.there);
            return orders[pile.there];
        }

        /** Only sets that can be come by from all that are there are looked at. */
        private void findFree(Pile pile) {
            Arrays.fill(free, UNKNOWN);
            free[pile.there] = 0;
            for (int left = pile.there; left > 0; left--) {
                if (free[left] == UNKNOWN) continue;
                free[left] = freeIn(pile, left);
                for (int b = 0; b < BOXES; b++) {
                    if (isIn(b, free[left])) free[left & ~(1 << b)] = 0;
                }
            }
        }

        private void findFirst(int all) {
            int left = all;
            for (int k = 0; k < BOXES && orders[left] > 0; k++) {
                for (int b = 0; b < BOXES; b++) {
                    if (left == 0 || !isIn(b, free[left]) || orders[left & ~(1 << b)] == 0) continue;
                    first[k] = b;
                    left &= ~(1 << b);
                    break;
                }
            }
        }
    }

    /** The bytes that were fed, and the clauses that they tell. */
    private static final class Tape {
        private static final int END = 0, WORD = 1, NUMBER = 2, SIGN = 3, WRONG = 4;

        private final int[] bytes = new int[TAPE];
        private int size = 0;
        private final int[] words = new int[CLAUSES];
        private final int[][] numbers = new int[CLAUSES][MOST_NUMBERS];
        private int clauses = 0;
        /** The token read last: its sort, its first byte's place, its value; and where the next one may begin. */
        private int token = END, start = 0, value = 0, at = 0;

        void append(int value) {
            if (size < bytes.length) bytes[size++] = value;
        }

        /** Reads all clauses: the place of the fault, or NONE. */
        int read() {
            at = 0;
            clauses = 0;
            while (clauses < CLAUSES) {
                if (!readClause()) return start;
                clauses++;
                step();
                if (token == END) return NONE;
                if (token != SIGN) return start;
            }
            return size;
        }

        private boolean readClause() {
            step();
            if (token != WORD || value == NONE) return false;
            words[clauses] = value;
            int many = NUMBERS_BEHIND[value];
            for (int i = 0; i < many; i++) {
                step();
                if (token != NUMBER) return false;
                numbers[clauses][i] = value;
            }
            return true;
        }

        private void step() {
            while (at < size && (bytes[at] == 32 || bytes[at] == 10)) at++;
            start = at;
            if (at >= size) {
                token = END;
            } else if (isLetter(bytes[at])) {
                readWord();
            } else if (isDigit(bytes[at])) {
                readNumber();
            } else {
                token = bytes[at] == ';' ? SIGN : WRONG;
                at++;
            }
        }

        private void readWord() {
            while (at < size && isLetter(bytes[at])) at++;
            token = WORD;
            value = NONE;
            if (isWord("box")) value = WORD_BOX;
            if (isWord("kind")) value = WORD_KIND;
            if (isWord("weigh")) value = WORD_WEIGH;
            if (isWord("off")) value = WORD_OFF;
        }

        private boolean isWord(String word) {
            if (word.length() != at - start) return false;
            for (int i = 0; i < word.length(); i++) {
                if (bytes[start + i] != word.charAt(i)) return false;
            }
            return true;
        }

        private void readNumber() {
            value = 0;
            while (at < size && isDigit(bytes[at])) {
                // A number that is too long is refused, so that its value, wrapped round, is never used.
                value = 10 * value + bytes[at] - '0';
                at++;
            }
            token = at - start <= LONGEST_NUMBER ? NUMBER : WRONG;
        }

        private static boolean isLetter(int c) {
            return c >= 'a' && c <= 'z';
        }

        private static boolean isDigit(int c) {
            return c >= '0' && c <= '9';
        }
    }

    /** A row of numbers, or missing; its room is made once, as a sheet becomes another often. */
    private static final class Sheet {
        private final int[] items = new int[LONGEST_SHEET];
        private int sort = NONE, size = 0;

        void become(int newSort, int newSize) {
            sort = newSort;
            size = newSize;
            Arrays.fill(items, 0);
        }

        boolean isMissing() {
            return sort == NONE;
        }

        boolean holds(int from, int n) {
            return from >= 0 && n >= 0 && from <= size && n <= size - from;
        }
    }
}
