/** Promises 34 to 36: sheets of 0 and 40 items, places just outside, bytes that wrap round, copies onto themselves. */
final class SheetEdgesTest {
    private static final int BAD = PileSteadier.BAD;
    private static final int LEAST = Edges.LEAST, GREATEST = Edges.GREATEST;

    private SheetEdgesTest() { }

    static void run() {
        sheetNumbers();
        sheetSizes();
        sheetsGoMissing();
        sheetsAnew();
        putNumbers();
        putPlaces();
        putBytes();
        putInts();
        copyNumbers();
        copyPlaces();
        copyOfNone();
        copyOfAll();
        copyOntoItself();
        copyOfBytes();
    }

    /** Item i of a sheet, if it is 1 .. 999, else 0: told by the WEIGHT of a box that comes of it. */
    private static int item(PileSteadier x, int sheet, int sort, int i) {
        x.sheet(3, sort, 5);
        x.put(3, 3, 111);
        x.copy(sheet, i, 3, 4, 1);
        x.image();
        int weight = x.comes(3, sort, 0, 1) == 1 ? x.of(x.count(0) - 1, 6) : 0;
        x.back();
        return weight;
    }

    private static void sheetNumbers() {
        PileSteadier x = new PileSteadier();
        for (int sheet : Edges.outside(0, 3)) {
            Check.due("34: SHEET " + sheet, x.sheet(sheet, 0, 1), BAD);
            Check.due("34: SHEET to go missing " + sheet, x.sheet(sheet, -1, 1), BAD);
            Check.due("34: SHEET ahead of -14, " + sheet, x.sheet(sheet, 1, -1), BAD);
        }
        for (int sort : Edges.outside(-1, 1)) {
            Check.due("34: sort " + sort, x.sheet(0, sort, 1), BAD);
            Check.due("34: sort ahead of -14, " + sort, x.sheet(0, sort, -1), BAD);
        }
        for (int s = 0; s < 4; s++) Check.due("34: refusals make none", x.put(s, 0, 0), -11);
        for (int s = 0; s < 4; s++) Check.due("34: each", x.sheet(s, s % 2, s), 1);
        for (int s = 0; s < 4; s++) Check.due("34: each has as many", x.copy(s, 0, s, 0, s), s);
    }

    private static void sheetSizes() {
        for (int sort = 0; sort < 2; sort++) {
            PileSteadier x = new PileSteadier();
            for (int n : Edges.outside(0, 40)) Check.due("34: n " + n, x.sheet(0, sort, n), n < 0 ? -14 : BAD);
            Check.due("34: it is missing still", x.put(0, 0, 0), -11);
            for (int n = 0; n <= 40; n++) {
                Check.due("34: n " + n, x.sheet(0, sort, n), 1);
                Check.due("34: up to the last of " + n, x.copy(0, 0, 0, 0, n), n);
                Check.due("34: beyond the last of " + n, x.put(0, n, 1), -12);
                if (n > 0) Check.due("34: the last of " + n, x.put(0, n - 1, 1), 1);
            }
            Check.due("34: 41", x.sheet(0, sort, 41), BAD);
            Check.due("34: -1", x.sheet(0, sort, -1), -14);
            Check.due("34: still of 40", x.copy(0, 0, 0, 0, 40), 40);
            Check.due("34: still with its last", item(x, 0, sort, 39), 1);
        }
    }

    private static void sheetsGoMissing() {
        PileSteadier x = new PileSteadier();
        for (int n : new int[] {0, 1, 40, 41, -1, LEAST, GREATEST}) {
            x.sheet(0, 1, 5);
            Check.due("34: missing, n " + n, x.sheet(0, -1, n), 1);
            Check.due("34: it is missing, n " + n, x.put(0, 0, 0), -11);
            Check.due("34: missing again, n " + n, x.sheet(0, -1, n), 1);
        }
    }

    private static void sheetsAnew() {
        PileSteadier x = new PileSteadier();
        x.sheet(0, 1, 40);
        for (int i = 0; i < 40; i++) x.put(0, i, 7);
        x.sheet(0, 1, 3);
        x.sheet(0, 1, 40);
        for (int i = 0; i < 40; i++) Check.due("34: all 0, " + i, item(x, 0, 1, i), 0);
        x.put(0, 5, 9);
        x.sheet(0, 0, 40);
        Check.due("34: all 0, of the other sort", item(x, 0, 0, 5), 0);
        x.put(0, 5, 9);
        x.sheet(0, -1, 0);
        x.sheet(0, 0, 40);
        Check.due("34: all 0, when it was missing", item(x, 0, 0, 5), 0);
    }

    private static void putNumbers() {
        PileSteadier x = new PileSteadier();
        for (int sheet : Edges.outside(0, 3)) {
            Check.due("35: SHEET " + sheet, x.put(sheet, 0, 1), BAD);
            Check.due("35: SHEET ahead of -12, " + sheet, x.put(sheet, -1, 1), BAD);
        }
        for (int s = 0; s < 4; s++) {
            Check.due("35: missing", x.put(s, 0, 1), -11);
            Check.due("35: -11 ahead of -12", x.put(s, -1, 1), -11);
            Check.due("35: -11 ahead of -12, beyond", x.put(s, 40, 1), -11);
        }
    }

    private static void putPlaces() {
        for (int sort = 0; sort < 2; sort++) {
            PileSteadier x = new PileSteadier();
            for (int n : new int[] {0, 1, 39, 40}) {
                x.sheet(0, sort, n);
                for (int i : Edges.outside(0, n - 1)) Check.due("35: i " + i + " of " + n, x.put(0, i, 1), -12);
                for (int i = 0; i < n; i += 13) Check.due("35: i " + i + " of " + n, x.put(0, i, 1), 1);
                if (n > 0) Check.due("35: the last of " + n, x.put(0, n - 1, 1), 1);
            }
        }
    }

    private static void putBytes() {
        PileSteadier x = new PileSteadier();
        x.sheet(0, 0, 1);
        int[][] due = {{0, 0}, {1, 1}, {127, 127}, {128, 128}, {255, 255}, {256, 0}, {257, 1}, {511, 255}, {-1, 255},
            {-128, 128}, {-255, 1}, {-256, 0}, {-257, 255}, {65535, 255}, {65537, 1}, {LEAST, 0}, {LEAST + 1, 1},
            {GREATEST, 255}, {GREATEST - 1, 254}, {200, 200}, {999, 231}};
        for (int[] d : due) {
            Check.due("35: a byte", x.put(0, 0, d[0]), 1);
            Check.due("35: the lowest 8 bits of " + d[0], item(x, 0, 0, 0), d[1]);
        }
    }

    private static void putInts() {
        PileSteadier x = new PileSteadier();
        x.sheet(0, 1, 1);
        int[][] due = {{1, 1}, {128, 128}, {255, 255}, {256, 256}, {257, 257}, {999, 999}, {1000, 0}, {65537, 0},
            {-1, 0}, {LEAST + 1, 0}, {GREATEST, 0}};
        for (int[] d : due) {
            Check.due("35: an int", x.put(0, 0, d[0]), 1);
            Check.due("35: whole, " + d[0], item(x, 0, 1, 0), d[1]);
        }
    }

    private static void copyNumbers() {
        PileSteadier x = new PileSteadier();
        x.sheet(0, 1, 5);
        x.sheet(1, 0, 5);
        for (int sheet : Edges.outside(0, 3)) {
            Check.due("36: SHEET " + sheet, x.copy(sheet, 0, 0, 0, 1), BAD);
            Check.due("36: the other " + sheet, x.copy(0, 0, sheet, 0, 1), BAD);
            Check.due("36: BAD ahead of -11, " + sheet, x.copy(sheet, 0, 2, 0, 1), BAD);
            Check.due("36: the other, BAD ahead of -11, " + sheet, x.copy(2, 0, sheet, 0, 1), BAD);
            Check.due("36: BAD ahead of -12, " + sheet, x.copy(0, 9, sheet, 0, -1), BAD);
        }
        Check.due("36: missing", x.copy(2, 0, 0, 0, 1), -11);
        Check.due("36: the other is missing", x.copy(0, 0, 3, 0, 1), -11);
        Check.due("36: both are missing", x.copy(2, 0, 3, 0, 1), -11);
        Check.due("36: missing, onto itself", x.copy(2, 0, 2, 0, 0), -11);
        Check.due("36: -11 ahead of -12", x.copy(2, -1, 0, 0, -1), -11);
        Check.due("36: ints to bytes", x.copy(0, 0, 1, 0, 1), -13);
        Check.due("36: bytes to ints", x.copy(1, 0, 0, 0, 1), -13);
        Check.due("36: of unlike sorts, none", x.copy(1, 0, 0, 0, 0), -13);
        Check.due("36: -13 ahead of -12", x.copy(1, 0, 0, 0, -1), -13);
        Check.due("36: -13 ahead of -12, i", x.copy(1, 6, 0, 0, 1), -13);
    }

    private static void copyPlaces() {
        PileSteadier x = new PileSteadier();
        x.sheet(0, 1, 5);
        x.sheet(1, 1, 7);
        for (int i : Edges.outside(0, 4)) {
            Check.due("36: i " + i, x.copy(0, i, 1, 0, 1), -12);
            if (i > 6 || i < 0) Check.due("36: j " + i, x.copy(0, 0, 1, i, 1), -12);
        }
        for (int n : Edges.outside(0, 5)) {
            Check.due("36: n " + n, x.copy(0, 0, 1, 0, n), -12);
            Check.due("36: n, from the longer one, " + n, x.copy(1, 0, 0, 0, n), -12);
            Check.due("36: n, behind the first, " + n, x.copy(0, 1, 1, 1, n), -12);
        }
        int[][] outside = {{1, 0, 5}, {4, 0, 2}, {0, 3, 5}, {0, 6, 2}, {5, 0, 1}, {0, 7, 1}, {5, 7, 1},
            {1, 1, GREATEST}, {4, 6, GREATEST}, {GREATEST, 0, GREATEST}, {0, GREATEST, 1}, {LEAST, 0, LEAST}};
        for (int[] o : outside) Check.due("36: outside", x.copy(0, o[0], 1, o[1], o[2]), -12);
        int[][] within = {{0, 0, 5}, {0, 2, 5}, {4, 6, 1}, {1, 3, 4}, {4, 0, 1}, {0, 6, 1}};
        for (int[] w : within) Check.due("36: within", x.copy(0, w[0], 1, w[1], w[2]), w[2]);
    }

    private static void copyOfNone() {
        PileSteadier x = new PileSteadier();
        Scenes.write(x, 0, 1, 11, 12, 13);
        Scenes.write(x, 1, 1, 21, 22);
        Check.due("36: none", x.copy(0, 0, 1, 0, 0), 0);
        Check.due("36: none, from within", x.copy(0, 2, 1, 1, 0), 0);
        Check.due("36: none, i below", x.copy(0, -1, 1, 0, 0), -12);
        Check.due("36: none, j below", x.copy(0, 0, 1, -1, 0), -12);
        Check.due("36: none, i far beyond", x.copy(0, 4, 1, 0, 0), -12);
        Check.due("36: none, j far beyond", x.copy(0, 0, 1, 3, 0), -12);
        Check.due("36: it is as it was", item(x, 1, 1, 0), 21);
        Check.due("36: it is as it was, last", item(x, 1, 1, 1), 22);
        x.sheet(2, 1, 0);
        Check.due("36: none of none", x.copy(2, 0, 2, 0, 0), 0);
        Check.due("36: one of none", x.copy(2, 0, 2, 0, 1), -12);
        Check.due("36: one to none", x.copy(0, 0, 2, 0, 1), -12);
    }

    private static void copyOfAll() {
        PileSteadier x = new PileSteadier();
        x.sheet(0, 1, 40);
        x.sheet(1, 1, 40);
        for (int i = 0; i < 40; i++) x.put(0, i, 100 + i);
        Check.due("36: 41 of 40", x.copy(0, 0, 1, 0, 41), -12);
        Check.due("36: 40 from 1", x.copy(0, 1, 1, 0, 40), -12);
        Check.due("36: 40 to 1", x.copy(0, 0, 1, 1, 40), -12);
        Check.due("36: nothing came", item(x, 1, 1, 0), 0);
        Check.due("36: all 40", x.copy(0, 0, 1, 0, 40), 40);
        Check.due("36: the first", item(x, 1, 1, 0), 100);
        Check.due("36: the last", item(x, 1, 1, 39), 139);
        Check.due("36: they stay, too", item(x, 0, 1, 39), 139);
        x.put(0, 39, 1);
        Check.due("36: two rows", item(x, 1, 1, 39), 139);
    }

    /** All shifts of a part of a row within it: each item comes as it was. */
    private static void copyOntoItself() {
        for (int from = 0; from <= 3; from++) {
            for (int to = 0; to <= 3; to++) {
                PileSteadier x = new PileSteadier();
                Scenes.write(x, 0, 1, 1, 2, 3, 4, 5, 6);
                Check.due("36: from " + from + " to " + to, x.copy(0, from, 0, to, 3), 3);
                for (int i = 0; i < 6; i++) {
                    int due = i >= to && i < to + 3 ? i - to + from + 1 : i + 1;
                    Check.due("36: from " + from + " to " + to + ", item " + i, item(x, 0, 1, i), due);
                }
            }
        }
    }

    private static void copyOfBytes() {
        PileSteadier x = new PileSteadier();
        Scenes.write(x, 0, 0, 255, 128, 1);
        x.sheet(1, 0, 3);
        Check.due("36: bytes", x.copy(0, 0, 1, 0, 3), 3);
        int[] due = {255, 128, 1};
        for (int i = 0; i < 3; i++) Check.due("36: as they were, " + i, item(x, 1, 0, i), due[i]);
    }
}
