/** Terms 2, promises 22 to 25: the first and the last place, the least and the greatest n, m and seeds. */
final class ThoughtEdgesTest {
    private static final int NONE = PileSteadier.NONE, BAD = PileSteadier.BAD, FULL = PileSteadier.FULL;
    private static final int LEAST = Edges.LEAST, GREATEST = Edges.GREATEST;

    private ThoughtEdgesTest() { }

    static void run() {
        withoutTheOnlyOne();
        withoutAnother();
        spotWhats();
        onlyTheFirstPlace();
        onlyTheLastPlace();
        noPlace();
        placesUpTo12();
        spotsOfSixAndSeven();
        spotsByLoad();
        bumpNumbers();
        drawnNumbers();
        bumpsAtTheEnds();
        seedsThatWrapRound();
        chanceNumbers();
        chanceInLowestTerms();
    }

    private static void withoutTheOnlyOne() {
        PileSteadier x = new PileSteadier();
        x.box(0, 0, 0, 111, 1);
        Check.due("22: without the only one", x.without(0), 0);
        PileSteadier seven = new PileSteadier();
        for (int i = 0; i < 7; i++) seven.box(0, 0, 0, 111, 1);
        for (int b = 0; b < 7; b++) {
            Check.due("22: the next one falls, " + b, seven.without(b), b < 6 ? 1 << b + 1 : 0);
        }
    }

    /** Without 2 the plank 3 rests on one end alone; without 1 it lies as it did. */
    private static void withoutAnother() {
        PileSteadier x = new PileSteadier();
        x.box(0, 7, 7, 111, 1);
        x.box(0, 0, 0, 111, 1);
        x.box(0, 1, 0, 211, 1);
        x.box(0, 0, 0, 311, 1);
        Check.due("22: far off", x.without(0), 0);
        Check.due("22: the lesser end", x.without(1), 0);
        Check.due("22: the greater end", x.without(2), 8);
        Check.due("22: truly all are there", x.stands(3), 15);
    }

    private static void spotWhats() {
        PileSteadier x = new PileSteadier();
        for (int what : Edges.outside(0, 1)) Check.due("23: what " + what, x.spot(111, 1, what), BAD);
        Check.due("23: all 64", x.spot(111, 1, 1), 64);
        Check.due("23: 4 by 4, up to 8", x.spot(444, 1, 1), 25);
        Check.due("23: 4 along X", x.spot(411, 1, 1), 40);
        Check.due("23: 4 along Y", x.spot(141, 1, 1), 40);
    }

    /** FRAGILE ones that bear nothing lie everywhere but in one cell. */
    private static PileSteadier allBut(int[][] boxes) {
        PileSteadier x = new PileSteadier();
        for (int[] b : boxes) x.box(1, b[0], b[1], b[2], 1);
        return x;
    }

    private static void onlyTheFirstPlace() {
        PileSteadier x = allBut(new int[][] {{1, 0, 311}, {0, 1, 431}, {4, 0, 441}, {0, 4, 441}, {4, 4, 441}});
        Check.due("23: the place 0", x.spot(111, 1, 0), 0);
        Check.due("23: it alone", x.spot(111, 1, 1), 1);
        Check.due("23: too wide for it", x.spot(211, 1, 0), NONE);
    }

    private static void onlyTheLastPlace() {
        PileSteadier x = allBut(new int[][] {{0, 0, 441}, {4, 0, 441}, {0, 4, 441}, {4, 4, 431}, {4, 7, 311}});
        Check.due("23: the place 63", x.spot(111, 1, 0), 63);
        Check.due("23: it alone", x.spot(111, 1, 1), 1);
        Check.due("23: too deep for it", x.spot(121, 1, 1), 0);
        PileSteadier end = allBut(new int[][] {{0, 0, 441}, {0, 4, 441}, {4, 1, 431}, {4, 4, 441}, {4, 0, 311}});
        Check.due("23: the place 7", end.spot(111, 1, 0), 7);
        PileSteadier side = allBut(new int[][] {{4, 0, 441}, {4, 4, 441}, {0, 0, 441}, {0, 4, 431}, {1, 7, 311}});
        Check.due("23: the place 56", side.spot(111, 1, 0), 56);
    }

    private static void noPlace() {
        PileSteadier x = allBut(new int[][] {{0, 0, 441}, {4, 0, 441}, {0, 4, 441}, {4, 4, 441}});
        Check.due("23: NONE", x.spot(111, 1, 0), NONE);
        Check.due("23: none, how many", x.spot(111, 1, 1), 0);
        PileSteadier tips = Scenes.tipping();
        Check.due("23: one that tips anyhow", tips.spot(111, 9, 0), NONE);
        PileSteadier crushed = new PileSteadier();
        crushed.box(1, 7, 7, 111, 1);
        crushed.box(0, 7, 7, 111, 1);
        Check.due("23: one that is CRUSHED anyhow", crushed.spot(111, 1, 1), 0);
    }

    private static void placesUpTo12() {
        for (int h = 1; h <= 4; h++) {
            PileSteadier x = new PileSteadier();
            x.box(0, 0, 0, 444, 1);
            x.box(0, 0, 0, 444, 1);
            if (h < 4) x.box(0, 0, 0, 444 - h, 1);
            Check.due("23: TOP 12, H " + h, x.spot(110 + h, 1, 0), 0);
            Check.due("23: TOP 12, H " + h + ", how many", x.spot(110 + h, 1, 1), 64);
            if (h == 4) continue;
            Check.due("23: TOP 13, H " + (h + 1), x.spot(111 + h, 1, 0), 4);
            Check.due("23: TOP 13, H " + (h + 1) + ", how many", x.spot(111 + h, 1, 1), 48);
        }
    }

    private static void spotsOfSixAndSeven() {
        PileSteadier x = new PileSteadier();
        for (int i = 0; i < 6; i++) x.box(0, i, 0, 111, 1);
        Check.due("23: six came", x.spot(111, 1, 0), 0);
        x.box(0, 6, 0, 111, 1);
        Check.due("23: seven came", x.spot(111, 1, 0), FULL);
        for (int i = 0; i < 7; i++) x.off(6 - i);
        Check.due("23: seven came, all gone", x.spot(111, 1, 1), FULL);
        Check.due("23: BAD ahead of FULL", x.spot(111, 1000, 1), BAD);
    }

    /** A box that bears 20: a crate of 20 may come upon it, one of 21 not; nor one that would tip. */
    private static void spotsByLoad() {
        PileSteadier x = new PileSteadier();
        x.box(1, 0, 0, 111, 1);
        x.kind(0, 1, 1);
        Check.due("23: just borne", x.spot(111, 20, 1), 64);
        Check.due("23: 1 more", x.spot(111, 21, 1), 63);
        Check.due("23: 1 more, first", x.spot(111, 21, 0), 1);
        Check.due("23: on the edge", x.spot(211, 1, 0), 0);
        Check.due("23: beyond the edge", x.spot(311, 1, 0), 1);
    }

    private static void bumpNumbers() {
        PileSteadier x = new PileSteadier();
        for (int n : Edges.outside(1, 30)) Check.due("24: n " + n, x.bumps(1, n), BAD);
        for (int seed : new int[] {LEAST, -1, 0, 1, GREATEST}) {
            Check.due("24: nobody there, n 1", x.bumps(seed, 1), NONE);
            Check.due("24: nobody there, n 30", x.bumps(seed, 30), NONE);
        }
        PileSteadier tips = Scenes.tipping();
        Check.due("24: the first, n 1", tips.bumps(GREATEST, 1), 0);
        Check.due("24: the first, n 30", tips.bumps(LEAST, 30), 0);
    }

    /** What a seed draws first, told by boxes of W and D 1 and unlike heights, that bear each side by another t. */
    private static void drawnNumbers() {
        int[][] drawn = {{0, 0, 39}, {1, 3, 16}, {-1, 0, 54}, {7, 2, 7}, {99999, 1, 29}, {GREATEST, 0, 58},
            {LEAST, 0, 35}, {LEAST + 1, 3, 12}};
        for (int[] d : drawn) {
            Drawn again = new Drawn(d[0]);
            Check.due("24: side by seed " + d[0], again.next(4), d[1]);
            Check.due("24: t by seed " + d[0], again.next(60), d[2]);
            for (int h = 2; h <= 4; h++) {
                PileSteadier x = new PileSteadier();
                x.box(5, 0, 0, 110 + h, 1);
                x.kind(0, 5, 3);
                int due = d[2] <= x.most(d[1]) ? NONE : 0;
                Check.due("24: seed " + d[0] + ", H " + h, x.bumps(d[0], 1), due);
                Check.due("24: as by a TILT, seed " + d[0], x.tilt(d[1], d[2]) == 0 ? NONE : 0, due);
            }
        }
    }

    /** All four sides are borne up to 58 of 59: by W 100 and L 244, H 2, it is 100 times 344 by 588, cut. */
    private static PileSteadier bears58() {
        PileSteadier x = new PileSteadier();
        x.box(5, 2, 2, 222, 100);
        x.box(5, 2, 2, 221, 244);
        for (int side = 0; side < 4; side++) Check.due("18: bears 58", x.most(side), 58);
        return x;
    }

    /** The first bump by t 59, as the numbers of a seed have it; 30, if none of 30. */
    private static int first59(int seed) {
        Drawn drawn = new Drawn(seed);
        for (int i = 0; i < 30; i++) {
            drawn.next(4);
            if (drawn.next(60) == 59) return i;
        }
        return 30;
    }

    /** For each place from 0 to 29 a seed by which just that bump is the first that isn't borne. */
    private static void bumpsAtTheEnds() {
        int found = 0;
        for (int seed = -2000; seed < 2000 && found != (1 << 30) - 1; seed++) {
            int first = first59(seed);
            if (first == 30 || (found & 1 << first) != 0) continue;
            found |= 1 << first;
            PileSteadier x = bears58();
            Check.due("24: just the last, seed " + seed, x.bumps(seed, first + 1), first);
            Check.due("24: of 30, seed " + seed, x.bumps(seed, 30), first);
            if (first > 0) Check.due("24: one less, seed " + seed, x.bumps(seed, first), NONE);
            Check.due("25: borne, seed " + seed, x.chance(seed, 1, first + 1, 0), 0);
        }
        Check.due("24: each place was asked", found, (1 << 30) - 1);
    }

    private static void seedsThatWrapRound() {
        PileSteadier x = bears58();
        for (int seed : new int[] {LEAST, LEAST + 1, GREATEST, GREATEST - 1, -1, 0, 1 << 30, -(1 << 30)}) {
            int first = first59(seed);
            Check.due("24: seed " + seed, x.bumps(seed, 30), first == 30 ? NONE : first);
        }
        for (int from = GREATEST - 19; from > 0; from++) {
            int borne = 0;
            for (int i = 0; i < 20; i++) borne += first59(from + i) >= 25 ? 1 : 0;
            Check.due("25: seeds from " + from + ", above", x.chance(from, 20, 25, 0), borne / gcd(borne, 20));
            Check.due("25: seeds from " + from + ", below", x.chance(from, 20, 25, 1), 20 / gcd(borne, 20));
        }
    }

    private static int gcd(int a, int b) {
        return b == 0 ? a : gcd(b, a % b);
    }

    private static void chanceNumbers() {
        PileSteadier x = bears58();
        for (int m : Edges.outside(1, 20)) Check.due("25: m " + m, x.chance(1, m, 1, 0), BAD);
        for (int n : Edges.outside(1, 30)) Check.due("25: n " + n, x.chance(1, 1, n, 0), BAD);
        for (int part : Edges.outside(0, 1)) Check.due("25: part " + part, x.chance(1, 1, 1, part), BAD);
        PileSteadier empty = new PileSteadier();
        for (int part = 0; part < 2; part++) {
            Check.due("25: all of 1", empty.chance(GREATEST, 1, 1, part), 1);
            Check.due("25: all of 20", empty.chance(GREATEST, 20, 30, part), 1);
            Check.due("25: none of 1", Scenes.tipping().chance(LEAST, 1, 1, part), part);
            Check.due("25: none of 20", Scenes.tipping().chance(LEAST, 20, 30, part), part);
        }
    }

    /** For each m from 1 to 20, among seeds that bear some and some that don't. */
    private static void chanceInLowestTerms() {
        PileSteadier x = bears58();
        for (int m = 1; m <= 20; m++) {
            for (int n = 1; n <= 30; n += 29) {
                int borne = 0;
                for (int i = 0; i < m; i++) borne += first59(500 * m + i) >= n ? 1 : 0;
                Check.due("25: of " + m + ", above", x.chance(500 * m, m, n, 0), borne / gcd(borne, m));
                Check.due("25: of " + m + ", below", x.chance(500 * m, m, n, 1), m / gcd(borne, m));
            }
        }
    }

    /** The numbers that a seed draws, by longs that are cut to 32 bits by hand. */
    private static final class Drawn {
        private long z;

        Drawn(int seed) {
            z = seed & 0xFFFFFFFFL;
        }

        int next(int below) {
            z = (z * 1103515245L + 12345L) & 0xFFFFFFFFL;
            return (int) ((z / 512) % below);
        }
    }
}
