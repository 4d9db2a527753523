/** Terms 1, promises 1 to 7: each number just within and just outside of what is allowed. */
final class BoxEdgesTest {
    private static final int BAD = PileSteadier.BAD, STATE = PileSteadier.STATE, FULL = PileSteadier.FULL;
    private static final int LEAST = Edges.LEAST, GREATEST = Edges.GREATEST;

    private BoxEdgesTest() { }

    static void run() {
        nothingIsThere();
        kindsOfBoxes();
        placesOfBoxes();
        areasOnTheFloor();
        sizes();
        weights();
        sevenCome();
        topsUpTo12();
        refusalsInTurn();
        edgesInCommon();
        greatestTop();
        whatOf();
        kindsAndFigures();
        figuresOfKinds();
        products();
        takenFor();
        offs();
    }

    private static void nothingIsThere() {
        PileSteadier x = new PileSteadier();
        for (int what = 0; what < 5; what++) Check.due("1: stands " + what, x.stands(what), 0);
        int[] fails = {-1, 0, -1, 0, -1};
        for (int what = 0; what < 5; what++) Check.due("1: fails " + what, x.fails(what), fails[what]);
        for (int what = 0; what < 6; what++) Check.due("1: count " + what, x.count(what), 0);
        for (int side = 0; side < 4; side++) {
            Check.due("1: most " + side, x.most(side), 99);
            Check.due("1: tilt " + side, x.tilt(side, 99), 0);
        }
        Check.due("1: free", x.free(), 0);
        Check.due("1: orders", x.order(-1), 1);
        Check.due("1: text", x.text(), -100);
        Check.due("1: no image", x.back(), STATE);
        Check.due("1: image", x.image(), 0);
        for (int s = 0; s < 4; s++) {
            Check.due("1: sheet is missing, tells", x.tells(s, 0), -11);
            Check.due("1: sheet is missing, comes", x.comes(s, 1, 0, 1), -11);
            Check.due("1: sheet is missing, put", x.put(s, 0, 0), -11);
            Check.due("1: sheet is missing, copy", x.copy(s, 0, s, 0, 0), -11);
        }
    }

    private static void kindsOfBoxes() {
        for (int kind = 0; kind <= 5; kind++) {
            PileSteadier x = new PileSteadier();
            Check.due("2: KIND " + kind, x.box(kind, 0, 0, 111, 1), 0);
            Check.due("3: KIND " + kind, x.of(0, 0), kind);
            Check.due("3: FIGURE at first", x.of(0, 1), 0);
        }
        PileSteadier x = new PileSteadier();
        for (int kind : Edges.outside(0, 5)) Check.due("2: KIND " + kind, x.box(kind, 0, 0, 111, 1), BAD);
        Check.due("2: nobody came", x.count(0), 0);
    }

    private static void placesOfBoxes() {
        PileSteadier x = new PileSteadier();
        for (int at : Edges.outside(0, 7)) {
            Check.due("2: X " + at, x.box(0, at, 0, 111, 1), BAD);
            Check.due("2: Y " + at, x.box(0, 0, at, 111, 1), BAD);
            Check.due("2: X, of a wide one, " + at, x.box(0, at, 0, 411, 1), BAD);
            Check.due("2: Y, of a deep one, " + at, x.box(0, 0, at, 141, 1), BAD);
        }
        // X 8 and Y 8 are numbers of the floor, but no area of 1 or more lies behind them.
        for (int w = 1; w <= 4; w++) {
            Check.due("2: X 8, W " + w, x.box(0, 8, 0, 100 * w + 11, 1), BAD);
            Check.due("2: Y 8, D " + w, x.box(0, 0, 8, 101 + 10 * w, 1), BAD);
        }
        Check.due("2: nobody came", x.count(0), 0);
        Check.due("2: least X, greatest Y", x.box(0, 0, 7, 111, 1), 0);
        Check.due("2: greatest X, least Y", x.box(0, 7, 0, 111, 1), 1);
        Check.due("2: least X and Y", x.box(0, 0, 0, 111, 1), 2);
        Check.due("2: greatest X and Y", x.box(0, 7, 7, 111, 1), 3);
    }

    private static void areasOnTheFloor() {
        for (int n = 1; n <= 4; n++) {
            PileSteadier x = new PileSteadier();
            Check.due("2: just up to 8 along X, W " + n, x.box(0, 8 - n, 0, 100 * n + 11, 1), 0);
            Check.due("2: just up to 8 along Y, D " + n, x.box(0, 0, 8 - n, 101 + 10 * n, 1), 1);
            Check.due("2: just up to the corner, " + n, x.box(0, 8 - n, 8 - n, 110 * n + 1, 1), 2);
            Check.due("2: one beyond 8 along X, W " + n, x.box(0, 9 - n, 0, 100 * n + 11, 1), BAD);
            Check.due("2: one beyond 8 along Y, D " + n, x.box(0, 0, 9 - n, 101 + 10 * n, 1), BAD);
            Check.due("2: W and D aren't each other, " + n, x.box(0, 7, 8 - n, 101 + 10 * n, 1), 3);
        }
    }

    /** All that are near to a size of three digits: only 1 .. 4 may be digits of one. */
    private static void sizes() {
        for (int size = -450; size <= 1500; size++) {
            boolean good = String.valueOf(size).matches("[1-4][1-4][1-4]");
            PileSteadier x = new PileSteadier();
            Check.due("2: SIZE " + size, x.box(0, 0, 0, size, 1), good ? 0 : BAD);
            Check.due("23: SIZE " + size, x.spot(size, 1, 0), good ? 0 : BAD);
            if (good) Check.due("3: SIZE " + size, x.of(0, 5), size);
        }
        PileSteadier x = new PileSteadier();
        for (int size : Edges.outside(111, 444)) {
            if (String.valueOf(size).matches("[1-4][1-4][1-4]")) continue;
            Check.due("2: SIZE " + size, x.box(0, 0, 0, size, 1), BAD);
            Check.due("23: SIZE " + size, x.spot(size, 1, 0), BAD);
        }
    }

    private static void weights() {
        PileSteadier x = new PileSteadier();
        for (int weight : Edges.outside(1, 999)) {
            Check.due("2: WEIGHT " + weight, x.box(0, 0, 0, 111, weight), BAD);
            Check.due("23: WEIGHT " + weight, x.spot(111, weight, 0), BAD);
        }
        Check.due("23: WEIGHT 1", x.spot(111, 1, 0), 0);
        Check.due("23: WEIGHT 999", x.spot(111, 999, 0), 0);
        Check.due("2: WEIGHT 1", x.box(0, 0, 0, 111, 1), 0);
        Check.due("2: WEIGHT 999", x.box(0, 1, 0, 111, 999), 1);
        Check.due("3: WEIGHT 1", x.of(0, 6), 1);
        Check.due("3: WEIGHT 999", x.of(1, 6), 999);
    }

    private static void sevenCome() {
        PileSteadier x = new PileSteadier();
        for (int i = 0; i < 7; i++) Check.due("2: number " + i, x.box(0, i, 0, 111, 1), i);
        Check.due("2: an eighth", x.box(0, 7, 0, 111, 1), FULL);
        Check.due("33: seven came", x.count(0), 7);
        Check.due("15: seven are there", x.stands(4), 127);
        Check.due("7: one goes", x.off(6), 6);
        Check.due("2: an eighth, behind one that went", x.box(0, 7, 0, 111, 1), FULL);
    }

    /** For each height: just up to 12, and one above. */
    private static void topsUpTo12() {
        int[][] below = {{444, 444, 443}, {444, 444, 442}, {444, 444, 441}, {444, 444}};
        for (int h = 1; h <= 4; h++) {
            PileSteadier x = new PileSteadier();
            for (int size : below[h - 1]) x.box(0, 0, 0, size, 1);
            if (h < 4) Check.due("2: TOP 13, H " + (h + 1), x.box(0, 3, 3, 111 + h, 1), STATE);
            Check.due("2: TOP 12, H " + h, x.box(0, 3, 3, 110 + h, 1), below[h - 1].length);
            Check.due("3: Z below 12", x.of(below[h - 1].length, 4), 12 - h);
            Check.due("2: on TOP 12", x.box(0, 3, 3, 111, 1), STATE);
            Check.due("2: one cell on TOP 12", x.box(0, 3, 3, 441, 1), STATE);
            Check.due("2: beside TOP 12", x.box(0, 4, 3, 444, 1), below[h - 1].length + 1);
        }
    }

    private static void refusalsInTurn() {
        PileSteadier high = new PileSteadier();
        for (int i = 0; i < 3; i++) high.box(0, 0, 0, 444, 1);
        Check.due("2: STATE", high.box(0, 0, 0, 441, 1), STATE);
        Check.due("2: BAD KIND ahead of STATE", high.box(-1, 0, 0, 441, 1), BAD);
        Check.due("2: BAD WEIGHT ahead of STATE", high.box(0, 0, 0, 441, 0), BAD);
        for (int i = 3; i < 7; i++) high.box(0, i, 7, 111, 1);
        Check.due("2: FULL ahead of STATE", high.box(0, 0, 0, 441, 1), FULL);
        Check.due("2: BAD KIND ahead of FULL", high.box(6, 0, 0, 441, 1), BAD);
        Check.due("2: BAD X ahead of FULL", high.box(0, 9, 0, 441, 1), BAD);
        Check.due("2: BAD AREA ahead of FULL", high.box(0, 5, 0, 441, 1), BAD);
        Check.due("2: BAD SIZE ahead of FULL", high.box(0, 0, 0, 445, 1), BAD);
        Check.due("2: BAD WEIGHT ahead of FULL", high.box(0, 0, 0, 441, 1000), BAD);
        Check.due("23: BAD SIZE ahead of FULL", high.spot(445, 1, 0), BAD);
        Check.due("23: BAD WEIGHT ahead of FULL", high.spot(441, 0, 0), BAD);
        Check.due("23: BAD what ahead of FULL", high.spot(441, 1, 2), BAD);
        Check.due("23: FULL", high.spot(441, 1, 1), FULL);
    }

    /** Around a square of 2 by 2: what has but an edge or a corner in common lies on the floor, else upon it. */
    private static void edgesInCommon() {
        for (int x = 0; x <= 6; x++) {
            for (int y = 0; y <= 6; y++) {
                PileSteadier p = new PileSteadier();
                p.box(0, 3, 3, 223, 1);
                p.box(0, x, y, 221, 1);
                boolean upon = x >= 2 && x <= 4 && y >= 2 && y <= 4;
                Check.due("2: Z by X " + x + ", Y " + y, p.of(1, 4), upon ? 3 : 0);
                int width = 2 - Math.abs(x - 3), depth = 2 - Math.abs(y - 3);
                Check.due("9: CONTACT by X " + x + ", Y " + y, p.contact(1, 0), upon ? width * depth : 0);
                Check.due("9: CONTACT with THE FLOOR", p.contact(1, -1), upon ? 0 : 4);
                Check.due("8: it RESTS ON it", p.on(1, 0), upon ? 1 : 0);
            }
        }
    }

    private static void greatestTop() {
        PileSteadier x = new PileSteadier();
        x.box(0, 0, 0, 112, 1);
        x.box(0, 1, 0, 113, 1);
        x.box(0, 2, 0, 111, 1);
        Check.due("2: on three of unlike tops", x.box(0, 0, 0, 311, 1), 3);
        Check.due("2: on the highest", x.of(3, 4), 3);
        Check.due("8: on the highest alone", x.on(3, 0), 2);
        Check.due("9: no CONTACT with a lower one", x.contact(3, 0), 0);
        Check.due("2: beside it", x.box(0, 0, 1, 311, 1), 4);
        Check.due("2: 0, where there are none", x.of(4, 4), 0);
    }

    private static void whatOf() {
        PileSteadier x = new PileSteadier();
        x.box(0, 0, 0, 111, 1);
        for (int what : Edges.outside(0, 9)) Check.due("3: what " + what, x.of(0, what), BAD);
        for (int box : Edges.outside(0, 0)) Check.due("3: box " + box, x.of(box, 0), BAD);
        Check.due("3: BAD box and what", x.of(1, 10), BAD);
    }

    private static void kindsAndFigures() {
        PileSteadier x = new PileSteadier();
        x.box(0, 0, 0, 111, 1);
        int was = 0;
        for (int kind = 0; kind <= 5; kind++) {
            for (int figure = 0; figure <= 9; figure++) {
                Check.due("4: what it was", x.kind(0, kind, figure), was);
                was = 10 * kind + figure;
            }
        }
        for (int kind : Edges.outside(0, 5)) Check.due("4: KIND " + kind, x.kind(0, kind, 0), BAD);
        for (int figure : Edges.outside(0, 9)) Check.due("4: FIGURE " + figure, x.kind(0, 0, figure), BAD);
        Check.due("4: refusals change nothing", x.kind(0, 0, 0), 59);
    }

    /** What FIGURE 0, 1 and 9 make of BEARS, GRIP and, W and D being 4, of the centre (in 20ths). */
    private static void figuresOfKinds() {
        int[][] bears = {{600, 700, 1500}, {0, 20, 180}, {1200, 1400, 3000}, {0, 10, 90}, {300, 300, 300},
            {1200, 1400, 3000}};
        int[][] grips = {{60, 60, 60}, {60, 60, 60}, {60, 61, 69}, {50, 50, 50}, {5, 6, 14}, {80, 81, 89}};
        int[] alongX = {0, 0, 4, 0, 0, -4}, alongY = {0, 0, 0, 0, 4, 0}, figures = {0, 1, 9};
        for (int kind = 0; kind <= 5; kind++) {
            for (int i = 0; i < 3; i++) {
                PileSteadier x = new PileSteadier();
                x.box(kind, 2, 1, 441, 5);
                x.kind(0, kind, figures[i]);
                String name = " of KIND " + kind + ", FIGURE " + figures[i];
                Check.due("3: BEARS" + name, x.of(0, 8), bears[kind][i]);
                Check.due("3: GRIP" + name, x.of(0, 9), grips[kind][i]);
                Check.due("6: BEARS" + name, x.taken(0, 0), bears[kind][i]);
                dueIn20ths("12: CENTRE along X" + name, x, 0, 80 + alongX[kind] * figures[i]);
                dueIn20ths("12: CENTRE along Y" + name, x, 1, 60 + alongY[kind] * figures[i]);
            }
        }
    }

    private static void dueIn20ths(String name, PileSteadier x, int axis, int due) {
        int common = 20;
        while (due % common != 0 || 20 % common != 0) common--;
        Check.due(name + ", above", x.centre(0, axis, 0), due / common);
        Check.due(name + ", below", x.centre(0, axis, 1), 20 / common);
    }

    private static void products() {
        PileSteadier x = new PileSteadier();
        x.box(0, 0, 0, 111, 77);
        int[][] beyond = {{65536, 32768}, {32768, 65536}, {46341, 46341}, {GREATEST, 2}, {2, GREATEST},
            {GREATEST, GREATEST}, {LEAST, LEAST}, {LEAST, -1}, {-1, LEAST}, {LEAST, 2}, {LEAST, GREATEST},
            {-3, 715827883}, {715827883, -3}, {65536, 65536}, {641, 6700417}, {GREATEST, -2}, {1 << 30, 4}};
        for (int[] b : beyond) Check.due("5: beyond an int, " + b[0] + " by " + b[1], x.weigh(0, b[0], b[1]), FULL);
        int[][] bad = {{0, 0}, {0, 1}, {1, 0}, {-1, 1}, {1, -1}, {1, 1000}, {1000, 1}, {8, 125}, {-25, -40},
            {GREATEST, 1}, {GREATEST, -1}, {LEAST, 1}, {-65536, 32768}, {LEAST, 0}, {46340, 46340}, {0, GREATEST}};
        for (int[] b : bad) Check.due("5: not 1 .. 999, " + b[0] + " by " + b[1], x.weigh(0, b[0], b[1]), BAD);
        Check.due("5: refusals change nothing", x.of(0, 6), 77);
        Check.due("5: least", x.weigh(0, 1, 1), 77);
        Check.due("5: greatest", x.weigh(0, 27, 37), 1);
        Check.due("5: greatest, each alone", x.weigh(0, 1, 999), 999);
        Check.due("5: greatest, n alone", x.weigh(0, 999, 1), 999);
        Check.due("5: least of two below 0", x.weigh(0, -1, -1), 999);
        Check.due("5: WEIGHT", x.of(0, 6), 1);
    }

    private static void takenFor() {
        PileSteadier x = new PileSteadier();
        x.box(3, 0, 0, 111, 1);
        for (int k : Edges.outside(0, 5)) Check.due("6: KIND " + k, x.taken(0, k), BAD);
        Check.due("6: as itself, bears 0", x.taken(0, 3), 0);
        Check.due("6: two above", x.taken(0, 0), 0);
        Check.due("6: not for one beside", x.taken(0, 2), -13);
        Check.due("6: not for the greatest KIND", x.taken(0, 5), -13);
        x.kind(0, 1, 0);
        Check.due("6: not for one under it", x.taken(0, 3), -13);
        x.kind(0, 2, 0);
        Check.due("6: not for the other under it", x.taken(0, 5), -13);
    }

    private static void offs() {
        PileSteadier empty = new PileSteadier();
        Check.due("7: nobody came", empty.off(0), BAD);
        PileSteadier one = new PileSteadier();
        one.box(1, 7, 7, 111, 999);
        Check.due("7: the only one", one.off(0), 0);
        Check.due("7: again", one.off(0), BAD);
        PileSteadier tips = Scenes.tipping();
        Check.due("7: one that is under one that tips", tips.off(0), STATE);
        Check.due("7: one that tips itself", tips.off(1), 1);
        PileSteadier other = Scenes.tipping();
        other.box(0, 5, 5, 111, 1);
        Check.due("7: another one tips all the same", other.off(2), STATE);
        Check.due("7: it is there all the same", other.stands(4), 7);
    }
}
