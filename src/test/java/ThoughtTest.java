/** Promises 22 to 25: without one, where one more can go, bumps. */
final class ThoughtTest {
    private ThoughtTest() { }

    static void run() {
        without();
        spots();
        spotsOfALoad();
        spotsAreRefused();
        bumps();
        bumpsByNumbers();
        bumpsOfSides();
        chances();
    }

    private static void without() {
        PileSteadier x = Scenes.tower();
        Check.due("22: without the lowest its next falls", x.without(0), 2);
        Check.due("22: without the highest", x.without(3), 0);
        Check.due("22: it is there all the same", x.stands(3), 15);
        PileSteadier tips = Scenes.tipping();
        Check.due("22: without what it stands on", tips.without(0), 2);
        Check.due("22: without the one that tips", tips.without(1), 0);
        PileSteadier bridge = Scenes.bridge();
        Check.due("22: on the corner of what is left", bridge.without(0), 0);
        bridge.kind(2, 4, 1);
        Check.due("22: without the greater support", bridge.without(0), 4);
        Check.due("22: without the lesser support", bridge.without(1), 0);
        PileSteadier crushed = Scenes.tower();
        crushed.kind(0, 1, 1);
        Check.due("22: crushed without the highest", crushed.without(3), 0);
        crushed.weigh(2, 11, 1);
        Check.due("22: one too much", crushed.without(3), 1);
        Check.due("22: one that falls hands nothing down", crushed.without(2), 8);
        Check.due("22: box", x.without(4), PileSteadier.BAD);
        Check.due("22: box below", x.without(-1), PileSteadier.BAD);
        x.off(3);
        Check.due("22: gone", x.without(3), PileSteadier.BAD);
    }

    private static void spots() {
        Check.due("23: first", Scenes.empty().spot(111, 1, 0), 0);
        Check.due("23: all", Scenes.empty().spot(111, 999, 1), 64);
        Check.due("23: 2 along X, 3 along Y", Scenes.empty().spot(231, 1, 1), 42);
        PileSteadier x = new PileSteadier();
        x.box(1, 0, 0, 414, 10);
        Check.due("23: not on the fragile one", x.spot(111, 1, 0), 4);
        Check.due("23: not on the fragile one, how many", x.spot(111, 1, 1), 60);
        x.box(1, 4, 0, 414, 10);
        Check.due("23: 8 times Y", x.spot(111, 1, 0), 8);
        Check.due("23: beside them", x.spot(121, 1, 0), 8);
        Check.due("23: thought only", x.count(0), 2);
        PileSteadier high = new PileSteadier();
        for (int i = 0; i < 3; i++) high.box(0, 0, 0, 413, 1);
        Check.due("23: up to 12", high.spot(113, 1, 0), 0);
        Check.due("23: above 12", high.spot(114, 1, 0), 4);
    }

    private static void spotsOfALoad() {
        PileSteadier x = new PileSteadier();
        for (int i = 0; i < 4; i++) x.box(1, 4 * (i % 2), 4 * (i / 2), 441, 1);
        Check.due("23: nowhere", x.spot(111, 1, 0), PileSteadier.NONE);
        Check.due("23: nowhere, how many", x.spot(111, 1, 1), 0);
        x.kind(3, 1, 1);
        Check.due("23: just borne", x.spot(111, 20, 0), 36);
        Check.due("23: just borne, how many", x.spot(111, 20, 1), 16);
        Check.due("23: not borne", x.spot(111, 21, 1), 0);
        PileSteadier held = Scenes.tipping();
        Check.due("23: one that tips is held by another", held.spot(111, 20, 0), 0);
        Check.due("23: only there", held.spot(111, 20, 1), 1);
        Check.due("23: too light", held.spot(111, 9, 1), 0);
        Check.due("23: just on the edge", held.spot(111, 10, 1), 1);
    }

    private static void spotsAreRefused() {
        PileSteadier x = new PileSteadier();
        for (int i = 0; i < 6; i++) x.box(0, i, 0, 111, 1);
        int[][] bad = {{11, 1, 0}, {115, 1, 0}, {101, 1, 0}, {-111, 1, 0}, {1111, 1, 0},
            {111, 0, 0}, {111, 1000, 0}, {111, 1, 2}, {111, 1, -1}};
        for (int[] b : bad) Check.due("23: bad", x.spot(b[0], b[1], b[2]), PileSteadier.BAD);
        Check.due("23: six came", x.spot(111, 1, 1), 64);
        x.box(0, 6, 0, 111, 1);
        Check.due("23: full", x.spot(111, 1, 0), PileSteadier.FULL);
        Check.due("23: bad ahead of full", x.spot(111, 1, 2), PileSteadier.BAD);
        x.off(6);
        Check.due("23: full, one gone", x.spot(111, 1, 1), PileSteadier.FULL);
    }

    /** Draws the numbers of bumps as the document tells, and asks tilt about each. */
    private static int firstByTilts(PileSteadier x, int seed, int n) {
        int z = seed;
        for (int i = 0; i < n; i++) {
            int[] drawn = new int[2];
            for (int k = 0; k < 2; k++) {
                z = z * 1103515245 + 12345;
                drawn[k] = (z >>> 9) % (k == 0 ? 4 : 60);
            }
            if (x.tilt(drawn[0], drawn[1]) != 0) return i;
        }
        return PileSteadier.NONE;
    }

    private static void bumps() {
        Check.due("24: empty", Scenes.empty().bumps(7, 30), PileSteadier.NONE);
        Check.due("24: tipping", Scenes.tipping().bumps(7, 1), 0);
        PileSteadier x = new PileSteadier();
        x.box(0, 0, 0, 441, 1);
        Check.due("24: a flat crate bears all", x.bumps(-1, 30), PileSteadier.NONE);
        x.kind(0, 4, 9);
        for (int seed = -3; seed < 30; seed++) {
            Check.due("24: seed " + seed, x.bumps(seed, 9), firstByTilts(x, seed, 9));
        }
        Check.due("24: greatest seed", x.bumps(Integer.MAX_VALUE, 30), firstByTilts(x, Integer.MAX_VALUE, 30));
        Check.due("24: least seed", x.bumps(Integer.MIN_VALUE, 30), firstByTilts(x, Integer.MIN_VALUE, 30));
        Check.due("24: n", x.bumps(0, 0), PileSteadier.BAD);
        Check.due("24: n above", x.bumps(0, 31), PileSteadier.BAD);
    }

    /** By seed 0 come side 0 by 39, 3 by 14, 3 by 14, 1 by 55. */
    private static void bumpsByNumbers() {
        PileSteadier x = new PileSteadier();
        x.box(0, 0, 0, 124, 1);
        Check.due("24: side 0 by 39", x.bumps(0, 1), 0);
        x.kind(0, 5, 6);
        Check.due("24: three are borne", x.bumps(0, 3), PileSteadier.NONE);
        Check.due("24: side 1 by 55", x.bumps(0, 4), 3);
        Check.due("24: the first of many", x.bumps(0, 30), 3);
        Check.due("25: seed 0 alone, above", x.chance(0, 1, 4, 0), 0);
        Check.due("25: seed 0 alone, three", x.chance(0, 1, 3, 0), 1);
    }

    /** Its centre is on the edge along X less, so that a side decides whether it stands. */
    private static void bumpsOfSides() {
        PileSteadier x = new PileSteadier();
        x.box(0, 1, 0, 111, 1);
        x.box(0, 0, 0, 211, 1);
        for (int seed = 100; seed < 130; seed++) {
            Check.due("24: side by seed " + seed, x.bumps(seed, 5), firstByTilts(x, seed, 5));
        }
    }

    private static int gcd(int a, int b) {
        return b == 0 ? a : gcd(b, a % b);
    }

    private static void dueChance(PileSteadier x, int seed, int m, int n) {
        int borne = 0;
        for (int i = 0; i < m; i++) {
            if (firstByTilts(x, seed + i, n) == PileSteadier.NONE) borne++;
        }
        Check.due("25: above", x.chance(seed, m, n, 0), borne / gcd(borne, m));
        Check.due("25: below", x.chance(seed, m, n, 1), m / gcd(borne, m));
    }

    private static void chances() {
        PileSteadier empty = Scenes.empty();
        Check.due("25: all, above", empty.chance(1, 20, 30, 0), 1);
        Check.due("25: all, below", empty.chance(1, 20, 30, 1), 1);
        PileSteadier tips = Scenes.tipping();
        Check.due("25: none, above", tips.chance(1, 20, 30, 0), 0);
        Check.due("25: none, below", tips.chance(1, 20, 30, 1), 1);
        PileSteadier x = new PileSteadier();
        x.box(3, 0, 0, 124, 1);
        for (int m = 1; m <= 20; m++) dueChance(x, 1000 * m, m, 1 + m % 3);
        dueChance(x, Integer.MAX_VALUE - 4, 10, 1);
        int[][] bad = {{0, 1, 0}, {21, 1, 0}, {1, 0, 0}, {1, 31, 0}, {1, 1, 2}, {1, 1, -1}, {-1, 1, 0}, {1, -1, 0}};
        for (int[] b : bad) Check.due("25: bad", x.chance(0, b[0], b[1], b[2]), PileSteadier.BAD);
    }
}
