/** Promises 34 to 36: sheets, items, copies. */
final class SheetTest {
    private static final int BAD = PileSteadier.BAD;

    private SheetTest() { }

    static void run() {
        sheets();
        puts();
        copies();
        copiesWithin();
        copiesOutside();
    }

    /** Tells item i of a sheet of ints by the weight of a box that comes of it; the item is 1 .. 999. */
    private static int item(PileSteadier x, int sheet, int i) {
        x.sheet(3, 1, 5);
        x.put(3, 3, 111);
        x.copy(sheet, i, 3, 4, 1);
        x.image();
        int weight = x.comes(3, 1, 0, 1) == 1 ? x.of(x.count(0) - 1, 6) : 0;
        x.back();
        return weight;
    }

    private static void sheets() {
        PileSteadier x = new PileSteadier();
        Check.due("34: a row", x.sheet(0, 1, 40), 1);
        Check.due("34: its last", x.put(0, 39, 5), 1);
        Check.due("34: beyond its last", x.put(0, 40, 5), -12);
        Check.due("34: above 40", x.sheet(0, 1, 41), BAD);
        Check.due("34: below 0", x.sheet(0, 0, -1), -14);
        Check.due("34: sort", x.sheet(0, 2, 1), BAD);
        Check.due("34: sort below", x.sheet(0, -2, 1), BAD);
        Check.due("34: sheet", x.sheet(4, 0, 1), BAD);
        Check.due("34: sheet below", x.sheet(-1, 0, 1), BAD);
        Check.due("34: bad ahead of below 0", x.sheet(4, 0, -1), BAD);
        Check.due("34: sort ahead of below 0", x.sheet(0, 3, -1), BAD);
        Check.due("34: refusals change nothing", item(x, 0, 39), 5);
        Check.due("34: anew", x.sheet(0, 1, 40), 1);
        Check.due("34: all 0 anew", item(x, 0, 39), 0);
        Check.due("34: of no numbers", x.sheet(0, 0, 0), 1);
        Check.due("34: it has no first", x.put(0, 0, 0), -12);
        Check.due("34: missing", x.sheet(0, -1, 5), 1);
        Check.due("34: it is missing", x.put(0, 0, 0), -11);
        Check.due("34: missing by any n", x.sheet(0, -1, -5), 1);
        Check.due("34: missing by a great n", x.sheet(0, -1, 41), 1);
        Check.due("34: no sheet goes missing", x.sheet(4, -1, 0), BAD);
    }

    private static void puts() {
        PileSteadier x = new PileSteadier();
        Check.due("35: sheet", x.put(4, 0, 0), BAD);
        Check.due("35: sheet below", x.put(-1, 0, 0), BAD);
        Check.due("35: missing", x.put(0, -1, 0), -11);
        x.sheet(0, 1, 3);
        Check.due("35: below", x.put(0, -1, 0), -12);
        Check.due("35: beyond", x.put(0, 3, 0), -12);
        Check.due("35: far beyond", x.put(0, Integer.MAX_VALUE, 0), -12);
        Check.due("35: first", x.put(0, 0, 300), 1);
        Check.due("35: last", x.put(0, 2, 999), 1);
        Check.due("35: an int stays whole", item(x, 0, 0), 300);
        Check.due("35: the other", item(x, 0, 2), 999);
        Check.due("35: between", item(x, 0, 1), 0);
        PileSteadier bytes = new PileSteadier();
        bytes.sheet(0, 0, 5);
        bytes.put(0, 3, 256 * 7 + 233);
        bytes.put(0, 4, -1);
        bytes.put(0, 3, 256 * 7 + 211);
        Check.due("35: lowest 8 bits", bytes.comes(0, 0, 0, 1), 1);
        Check.due("35: size", bytes.of(0, 5), 211);
        Check.due("35: -1 is 255", bytes.of(0, 6), 255);
    }

    private static void copies() {
        PileSteadier x = new PileSteadier();
        Scenes.write(x, 0, 1, 1, 2, 3, 4, 5);
        x.sheet(1, 1, 4);
        Check.due("36: three", x.copy(0, 2, 1, 1, 3), 3);
        for (int i = 0; i < 4; i++) Check.due("36: item " + i, item(x, 1, i), new int[] {0, 3, 4, 5}[i]);
        for (int i = 0; i < 5; i++) Check.due("36: it keeps item " + i, item(x, 0, i), i + 1);
        Check.due("36: none", x.copy(0, 0, 1, 0, 0), 0);
        Check.due("36: none, from the ends", x.copy(0, 5, 1, 4, 0), 0);
        x.sheet(2, 0, 5);
        Check.due("36: of unlike sorts", x.copy(0, 0, 2, 0, 1), -13);
        Check.due("36: of unlike sorts, other way", x.copy(2, 0, 0, 0, 1), -13);
        Check.due("36: of unlike sorts, outside", x.copy(2, 9, 0, 0, -1), -13);
    }

    private static void copiesWithin() {
        PileSteadier x = new PileSteadier();
        Scenes.write(x, 0, 1, 1, 2, 3, 4, 5);
        Check.due("36: upwards", x.copy(0, 0, 0, 1, 4), 4);
        for (int i = 0; i < 5; i++) Check.due("36: as they were, up " + i, item(x, 0, i), new int[] {1, 1, 2, 3, 4}[i]);
        Scenes.write(x, 0, 1, 1, 2, 3, 4, 5);
        Check.due("36: downwards", x.copy(0, 2, 0, 0, 3), 3);
        for (int i = 0; i < 5; i++) Check.due("36: as they were, down " + i, item(x, 0, i), new int[] {3, 4, 5, 4, 5}[i]);
    }

    private static void copiesOutside() {
        PileSteadier x = new PileSteadier();
        Scenes.write(x, 0, 1, 1, 2, 3, 4, 5);
        x.sheet(1, 1, 4);
        int[][] outside = {{-1, 0, 1}, {0, -1, 1}, {0, 0, -1}, {3, 0, 3}, {0, 2, 3}, {6, 0, 0}, {0, 5, 0}, {0, 0, 5},
            {Integer.MAX_VALUE, 0, 1}, {1, 1, Integer.MAX_VALUE}, {0, Integer.MAX_VALUE, 1}, {2, 2, Integer.MIN_VALUE}};
        for (int[] o : outside) Check.due("36: outside", x.copy(0, o[0], 1, o[1], o[2]), -12);
        for (int i = 0; i < 4; i++) Check.due("36: nothing is copied", item(x, 1, i), 0);
        Check.due("36: missing", x.copy(2, 0, 0, 0, 1), -11);
        Check.due("36: the other is missing", x.copy(0, 0, 2, 0, -1), -11);
        Check.due("36: sheet", x.copy(4, 0, 0, 0, 1), BAD);
        Check.due("36: other sheet", x.copy(0, 0, -1, 0, 1), BAD);
        Check.due("36: bad ahead of missing", x.copy(2, 0, 4, 0, 1), BAD);
    }
}
