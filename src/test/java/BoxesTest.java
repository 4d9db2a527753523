/** Promises 1 to 7: boxes come, are told of, change and go. */
final class BoxesTest {
    private BoxesTest() { }

    static void run() {
        newObject();
        boxComes();
        boxIsRefused();
        boxIsRefusedInTurn();
        ofTells();
        bearsAndGrips();
        kindChanges();
        weighChanges();
        takenForAKind();
        offGoes();
    }

    private static void newObject() {
        PileSteadier x = new PileSteadier();
        Check.due("1: count(0)", x.count(0), 0);
        Check.due("1: count(1)", x.count(1), 0);
        Check.due("1: count(2)", x.count(2), 0);
        Check.due("1: stands(4)", x.stands(4), 0);
        Check.due("1: of(0, 0)", x.of(0, 0), PileSteadier.BAD);
        Check.due("1: back()", x.back(), PileSteadier.STATE);
        for (int sheet = 0; sheet < 4; sheet++) Check.due("1: put", x.put(sheet, 0, 0), -11);
    }

    private static void boxComes() {
        PileSteadier x = new PileSteadier();
        Check.due("2: first", x.box(5, 0, 0, 123, 999), 0);
        Check.due("2: far corner", x.box(0, 4, 4, 444, 1), 1);
        Check.due("2: Z of first", x.of(0, 4), 0);
        Check.due("2: an edge in common lifts nobody", x.box(0, 1, 0, 111, 1), 2);
        Check.due("2: Z beside", x.of(2, 4), 0);
        Check.due("2: on the higher of two", x.box(0, 0, 0, 211, 1), 3);
        Check.due("2: Z on the higher", x.of(3, 4), 3);
        x.off(3);
        x.off(2);
        x.off(0);
        Check.due("2: where one is gone", x.box(0, 0, 0, 111, 1), 4);
        Check.due("2: Z where one is gone", x.of(4, 4), 0);
        Check.due("2: figure at first", x.of(4, 1), 0);
    }

    private static void boxIsRefused() {
        PileSteadier x = new PileSteadier();
        int[][] bad = {
            {-1, 0, 0, 111, 1}, {6, 0, 0, 111, 1}, {0, -1, 0, 111, 1}, {0, 0, -1, 111, 1},
            {0, 8, 0, 111, 1}, {0, 0, 8, 111, 1}, {0, 5, 0, 411, 1}, {0, 0, 5, 141, 1},
            {0, Integer.MAX_VALUE, 0, 411, 1}, {0, 0, Integer.MAX_VALUE, 141, 1},
            {0, Integer.MIN_VALUE, 0, 111, 1}, {0, 0, 0, 11, 1}, {0, 0, 0, 1111, 1}, {0, 0, 0, 110, 1},
            {0, 0, 0, 101, 1}, {0, 0, 0, 511, 1}, {0, 0, 0, 151, 1}, {0, 0, 0, 115, 1}, {0, 0, 0, -111, 1},
            {0, 0, 0, 0, 1}, {0, 0, 0, 111, 0}, {0, 0, 0, 111, 1000}, {0, 0, 0, 111, -5},
        };
        for (int[] b : bad) Check.due("2: bad", x.box(b[0], b[1], b[2], b[3], b[4]), PileSteadier.BAD);
        Check.due("2: refused ones don't come", x.count(0), 0);
    }

    private static void boxIsRefusedInTurn() {
        PileSteadier x = new PileSteadier();
        for (int i = 0; i < 3; i++) x.box(0, 0, 0, 114, 1);
        Check.due("2: top is 12", x.of(2, 4), 8);
        Check.due("2: top above 12", x.box(0, 0, 0, 111, 1), PileSteadier.STATE);
        Check.due("2: bad ahead of state", x.box(0, 0, 0, 111, 0), PileSteadier.BAD);
        for (int i = 0; i < 4; i++) x.box(0, 4, i, 111, 1);
        Check.due("2: seven came", x.count(0), 7);
        Check.due("2: full", x.box(0, 7, 7, 111, 1), PileSteadier.FULL);
        Check.due("2: full ahead of state", x.box(0, 0, 0, 111, 1), PileSteadier.FULL);
        Check.due("2: bad ahead of full", x.box(0, 8, 7, 111, 1), PileSteadier.BAD);
        x.off(6);
        Check.due("2: gone ones came", x.box(0, 7, 7, 111, 1), PileSteadier.FULL);
    }

    private static void ofTells() {
        PileSteadier x = new PileSteadier();
        x.box(0, 3, 4, 341, 20);
        x.box(2, 3, 5, 214, 77);
        x.kind(1, 2, 3);
        int[] due = {2, 3, 3, 5, 1, 214, 77, 0, 1800, 63};
        for (int what = 0; what < due.length; what++) Check.due("3: of(1, " + what + ")", x.of(1, what), due[what]);
        x.off(1);
        due[7] = 1;
        for (int what = 0; what < due.length; what++) Check.due("3: gone, " + what, x.of(1, what), due[what]);
        Check.due("3: what below", x.of(0, -1), PileSteadier.BAD);
        Check.due("3: what above", x.of(0, 10), PileSteadier.BAD);
        Check.due("3: box below", x.of(-1, 0), PileSteadier.BAD);
        Check.due("3: box that didn't come", x.of(2, 0), PileSteadier.BAD);
        Check.due("3: box beyond all", x.of(7, 0), PileSteadier.BAD);
    }

    private static void bearsAndGrips() {
        PileSteadier x = new PileSteadier();
        x.box(0, 0, 0, 111, 1);
        int[][] bears = {{600, 1500}, {0, 180}, {1200, 3000}, {0, 90}, {300, 300}, {1200, 3000}};
        int[][] grips = {{60, 60}, {60, 60}, {60, 69}, {50, 50}, {5, 14}, {80, 89}};
        for (int kind = 0; kind < 6; kind++) {
            for (int i = 0; i < 2; i++) {
                x.kind(0, kind, 9 * i);
                Check.due("3: bears of kind " + kind, x.of(0, 8), bears[kind][i]);
                Check.due("3: grip of kind " + kind, x.of(0, 9), grips[kind][i]);
            }
        }
    }

    private static void kindChanges() {
        PileSteadier x = new PileSteadier();
        x.box(4, 0, 0, 111, 1);
        Check.due("4: what it was", x.kind(0, 3, 9), 40);
        Check.due("4: what it became", x.kind(0, 0, 0), 39);
        int[][] bad = {{0, -1, 0}, {0, 6, 0}, {0, 0, -1}, {0, 0, 10}, {-1, 0, 0}, {1, 0, 0}};
        for (int[] b : bad) Check.due("4: bad", x.kind(b[0], b[1], b[2]), PileSteadier.BAD);
        Check.due("4: a refusal changes nothing", x.kind(0, 5, 5), 0);
        x.off(0);
        Check.due("4: gone", x.kind(0, 0, 0), PileSteadier.BAD);
        Check.due("4: gone keeps its kind", x.of(0, 0), 5);
    }

    private static void weighChanges() {
        PileSteadier x = new PileSteadier();
        x.box(0, 0, 0, 111, 7);
        Check.due("5: weigh", x.weigh(0, 9, 111), 7);
        Check.due("5: weight", x.of(0, 6), 999);
        Check.due("5: two below 0", x.weigh(0, -3, -4), 999);
        Check.due("5: weight of two below 0", x.of(0, 6), 12);
        Check.due("5: nothing", x.weigh(0, 0, 9), PileSteadier.BAD);
        Check.due("5: too heavy", x.weigh(0, 10, 100), PileSteadier.BAD);
        Check.due("5: below 0", x.weigh(0, -1, 5), PileSteadier.BAD);
        Check.due("5: the greatest int", x.weigh(0, Integer.MAX_VALUE, 1), PileSteadier.BAD);
        Check.due("5: one more", x.weigh(0, 65536, 32768), PileSteadier.FULL);
        Check.due("5: round to 1", x.weigh(0, 641, 6700417), PileSteadier.FULL);
        Check.due("5: the least int", x.weigh(0, -65536, 32768), PileSteadier.BAD);
        Check.due("5: one less", x.weigh(0, Integer.MIN_VALUE, 2), PileSteadier.FULL);
        Check.due("5: least times less", x.weigh(0, Integer.MIN_VALUE, -1), PileSteadier.FULL);
        Check.due("5: bad box ahead of full", x.weigh(1, 65536, 65536), PileSteadier.BAD);
        Check.due("5: refusals change nothing", x.of(0, 6), 12);
        x.off(0);
        Check.due("5: gone", x.weigh(0, 1, 1), PileSteadier.BAD);
    }

    private static void takenForAKind() {
        PileSteadier x = new PileSteadier();
        x.box(0, 0, 0, 111, 1);
        boolean[][] under = {
            {true, false, false, false, false, false}, {true, true, false, false, false, false},
            {true, false, true, false, false, false}, {true, true, false, true, false, false},
            {true, false, false, false, true, false}, {true, false, true, false, false, true},
        };
        int[] bears = {1000, 80, 2000, 40, 300, 2000};
        for (int kind = 0; kind < 6; kind++) {
            x.kind(0, kind, 4);
            for (int k = 0; k < 6; k++) {
                Check.due("6: " + kind + " taken for " + k, x.taken(0, k), under[kind][k] ? bears[kind] : -13);
            }
        }
        Check.due("6: kind below", x.taken(0, -1), PileSteadier.BAD);
        Check.due("6: kind above", x.taken(0, 6), PileSteadier.BAD);
        Check.due("6: box", x.taken(1, 0), PileSteadier.BAD);
        x.off(0);
        Check.due("6: gone", x.taken(0, 0), PileSteadier.BAD);
    }

    private static void offGoes() {
        PileSteadier x = Scenes.tower();
        Check.due("7: not free", x.off(2), PileSteadier.STATE);
        Check.due("7: not free, still there", x.stands(4), 15);
        Check.due("7: free", x.off(3), 3);
        Check.due("7: gone", x.off(3), PileSteadier.BAD);
        Check.due("7: now free", x.off(2), 2);
        Check.due("7: who is there", x.stands(4), 3);
        Check.due("7: none such", x.off(4), PileSteadier.BAD);
        Check.due("7: below", x.off(-1), PileSteadier.BAD);
        Check.due("7: far beyond", x.off(32), PileSteadier.BAD);
        PileSteadier row = Scenes.row();
        Check.due("7: in the way", row.off(0), PileSteadier.STATE);
        PileSteadier held = Scenes.bridge();
        held.weigh(0, 1, 1);
        Check.due("7: the last but one goes", held.off(2), 2);
    }
}
