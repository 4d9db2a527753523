/** Terms 2, promises 8 to 14: the least and the greatest contacts, parts, loads, centres and corners. */
final class RestEdgesTest {
    private static final int BAD = PileSteadier.BAD;
    private static final long NO = PileSteadier.NO;

    private RestEdgesTest() { }

    static void run() {
        whatOn();
        topIsZ();
        leastAndGreatestContacts();
        topIsZButApart();
        sameOrOther();
        leftOverByNumbers();
        lesserAreaFirst();
        greatestLoads();
        axesAndParts();
        leastAndGreatestCentres();
        whichCorner();
        cornersOfSixContacts();
        cornersWhateverTheNumbers();
        onCornersAndEdges();
        aHairBeyond();
    }

    private static void whatOn() {
        PileSteadier x = new PileSteadier();
        x.box(0, 0, 0, 111, 1);
        for (int what : Edges.outside(0, 1)) Check.due("8: what " + what, x.on(0, what), BAD);
        Check.due("8: on nothing", x.on(0, 0), 0);
        Check.due("8: nothing on it", x.on(0, 1), 0);
        for (int i = 1; i < 7; i++) x.box(0, 0, 0, 111, 1);
        Check.due("8: the greatest number", x.on(5, 1), 64);
        Check.due("8: only on the next", x.on(6, 0), 32);
    }

    /** Of three beside one another, 1, 2 and 3 high, the plank rests on the highest alone; of like ones on all. */
    private static void topIsZ() {
        PileSteadier x = new PileSteadier();
        for (int i = 0; i < 3; i++) x.box(0, i, 0, 111 + i, 1);
        x.box(0, 0, 0, 311, 6);
        Check.due("8: a TOP one below Z", x.on(3, 0), 4);
        Check.due("9: a TOP one below Z", x.contact(3, 1), 0);
        Check.due("11: to a lower one", x.hands(3, 1), 0);
        Check.due("11: to the highest, all", x.hands(3, 2), 6);
        Check.due("8: nothing on the lower one", x.on(1, 1), 0);
        PileSteadier like = new PileSteadier();
        for (int i = 0; i < 3; i++) like.box(0, i, 0, 112, 1);
        like.box(0, 0, 0, 311, 6);
        Check.due("8: like ones", like.on(3, 0), 7);
        for (int i = 0; i < 3; i++) Check.due("11: like ones", like.hands(3, i), 2);
    }

    private static void leastAndGreatestContacts() {
        PileSteadier x = new PileSteadier();
        x.box(0, 0, 0, 441, 1);
        x.box(0, 0, 0, 441, 1);
        x.box(0, 3, 3, 441, 1);
        x.box(0, 7, 0, 111, 1);
        Check.due("9: all of it", x.contact(1, 0), 16);
        Check.due("9: one cell", x.contact(2, 1), 1);
        Check.due("9: the lowest isn't touched", x.contact(2, 0), 0);
        Check.due("9: the greatest with THE FLOOR", x.contact(0, -1), 16);
        Check.due("9: the least with THE FLOOR", x.contact(3, -1), 1);
        Check.due("9: not with THE FLOOR", x.contact(1, -1), 0);
        Check.due("11: not to THE FLOOR", x.hands(1, -1), 0);
        Check.due("11: all to THE FLOOR", x.hands(0, -1), 3);
    }

    /** Two pillars of like TOP at all distances; what rests on the one has nothing in common with the other. */
    private static void topIsZButApart() {
        for (int at = 0; at < 49; at++) {
            int x = at % 7, y = at / 7;
            if (x >= 2 && x <= 4 && y >= 2 && y <= 4) continue;
            PileSteadier p = new PileSteadier();
            p.box(0, 3, 3, 223, 1);
            p.box(0, x, y, 223, 1);
            p.box(0, x, y, 221, 5);
            String name = ", X " + x + ", Y " + y;
            Check.due("9: no CONTACT" + name, p.contact(2, 0), 0);
            Check.due("9: CONTACT" + name, p.contact(2, 1), 4);
            Check.due("8: on one alone" + name, p.on(2, 0), 2);
            Check.due("8: nothing on the other" + name, p.on(0, 1), 0);
            Check.due("11: nothing" + name, p.hands(2, 0), 0);
            Check.due("11: all" + name, p.hands(2, 1), 5);
        }
    }

    private static void sameOrOther() {
        PileSteadier x = new PileSteadier();
        for (int i = 0; i < 7; i++) x.box(0, i, 0, 111, 1);
        for (int b = 0; b < 7; b++) {
            Check.due("9: the same", x.contact(b, b), BAD);
            Check.due("11: the same", x.hands(b, b), BAD);
            Check.due("9: THE FLOOR", x.contact(b, -1), 1);
            Check.due("11: THE FLOOR", x.hands(b, -1), 1);
            Check.due("9: other below NONE", x.contact(b, -2), BAD);
            Check.due("11: other below NONE", x.hands(b, -2), BAD);
            Check.due("9: other beyond all", x.contact(b, 7), BAD);
            Check.due("11: other beyond all", x.hands(b, 7), BAD);
        }
        Check.due("9: the last with the first", x.contact(6, 0), 0);
        Check.due("11: the first with the last", x.hands(0, 6), 0);
    }

    /** One on six of like areas, that stand against the order of their numbers: what is left over is 0 to 5. */
    private static void leftOverByNumbers() {
        PileSteadier x = new PileSteadier();
        for (int i = 0; i < 6; i++) x.box(0, 2 - i % 3, 1 - i / 3, 111, 1);
        x.box(0, 0, 0, 321, 1);
        for (int weight = 1; weight <= 13; weight++) {
            x.weigh(6, 1, weight);
            for (int i = 0; i < 6; i++) {
                int due = weight / 6 + (i < weight % 6 ? 1 : 0);
                Check.due("11: " + weight + " by six, to " + i, x.hands(6, i), due);
                Check.due("10: " + weight + " by six, of " + i, x.load(i), due);
            }
        }
    }

    /** Areas of 4 (number 0) and 12 (number 1): what is left over goes by numbers, not by areas. */
    private static void lesserAreaFirst() {
        PileSteadier x = new PileSteadier();
        x.box(0, 0, 3, 411, 1);
        x.box(0, 0, 0, 431, 1);
        x.box(0, 0, 0, 441, 1);
        int[][] due = {{1, 1, 0}, {2, 1, 1}, {3, 1, 2}, {4, 1, 3}, {5, 2, 3}, {15, 4, 11}, {16, 4, 12}, {999, 250, 749}};
        for (int[] d : due) {
            x.weigh(2, 1, d[0]);
            Check.due("11: to the lesser, of " + d[0], x.hands(2, 0), d[1]);
            Check.due("11: to the greater, of " + d[0], x.hands(2, 1), d[2]);
        }
    }

    private static void greatestLoads() {
        PileSteadier x = new PileSteadier();
        for (int i = 0; i < 7; i++) x.box(0, 0, 0, 441, 999);
        for (int i = 0; i < 7; i++) {
            Check.due("10: seven of 999, " + i, x.load(i), 999 * (6 - i));
            if (i > 0) Check.due("11: seven of 999, " + i, x.hands(i, i - 1), 999 * (7 - i));
        }
        Check.due("11: all to THE FLOOR", x.hands(0, -1), 6993);
        Check.due("33: WEIGHT of all", x.count(3), 6993);
        Check.due("33: what all hand to THE FLOOR", x.count(5), 6993);
        Check.due("33: twos", x.count(4), 6);
        Check.due("15: CRUSHED but the highest", x.stands(1), 63);
        Check.due("16: all that are above are CAUSES", x.fails(3), 6);
        Check.due("16: ROOT", x.fails(4), 6);
        Check.due("12: along X", x.centre(0, 0, 0), 2);
        Check.due("12: along X, below", x.centre(0, 0, 1), 1);
    }

    private static void axesAndParts() {
        PileSteadier x = new PileSteadier();
        x.box(0, 0, 0, 111, 1);
        for (int wrong : Edges.outside(0, 1)) {
            Check.due("12: axis " + wrong, x.centre(0, wrong, 0), NO);
            Check.due("12: part " + wrong, x.centre(0, 0, wrong), NO);
            Check.due("12: axis and part " + wrong, x.centre(0, wrong, wrong), NO);
            Check.due("13: axis " + wrong, x.corner(0, 0, wrong), BAD);
            Check.due("13: axis by NONE " + wrong, x.corner(0, -1, wrong), BAD);
            Check.due("13: axis ahead of k, " + wrong, x.corner(0, 4, wrong), BAD);
        }
        Check.due("12: NO is the least long", NO, Long.MIN_VALUE);
    }

    private static void dueCentre(String name, int kind, int figure, int at, int axis, long above, long below) {
        PileSteadier x = new PileSteadier();
        x.box(kind, axis == 0 ? at : 0, axis == 0 ? 0 : at, 111, 7);
        x.kind(0, kind, figure);
        Check.due("12: " + name + ", above", x.centre(0, axis, 0), above);
        Check.due("12: " + name + ", below", x.centre(0, axis, 1), below);
    }

    private static void leastAndGreatestCentres() {
        dueCentre("SAFE 9 at X 0", 5, 9, 0, 0, 1, 20);
        dueCentre("SAFE 0 at X 0", 5, 0, 0, 0, 1, 2);
        dueCentre("HEAVY 9 at X 7", 2, 9, 7, 0, 159, 20);
        dueCentre("HEAVY 5 at X 0, lowest terms", 2, 5, 0, 0, 3, 4);
        dueCentre("DRUM 9 at Y 7", 4, 9, 7, 1, 159, 20);
        dueCentre("DRUM 9 at X 7", 4, 9, 7, 0, 15, 2);
        dueCentre("HEAVY 9 at Y 7", 2, 9, 7, 1, 15, 2);
        dueCentre("CRATE 9 at X 7", 0, 9, 7, 0, 15, 2);
        dueCentre("GLASS 9 at Y 0", 3, 9, 0, 1, 1, 2);
        PileSteadier x = new PileSteadier();
        x.box(0, 0, 0, 441, 999);
        x.box(0, 3, 3, 111, 1);
        // 999 at 2 and 1 at 7/2: 4003 by 2000.
        for (int axis = 0; axis < 2; axis++) {
            Check.due("12: with a load of 1, above", x.centre(0, axis, 0), 4003);
            Check.due("12: with a load of 1, below", x.centre(0, axis, 1), 2000);
        }
    }

    private static void whichCorner() {
        PileSteadier x = new PileSteadier();
        x.box(0, 1, 2, 341, 1);
        Check.due("13: how many, axis 0", x.corner(0, -1, 0), 4);
        Check.due("13: how many, axis 1", x.corner(0, -1, 1), 4);
        int[][] due = {{1, 2}, {4, 2}, {4, 6}, {1, 6}};
        for (int k = 0; k < 4; k++) {
            for (int axis = 0; axis < 2; axis++) Check.due("13: corner " + k, x.corner(0, k, axis), due[k][axis]);
        }
        for (int k : Edges.outside(-1, 3)) {
            Check.due("13: k " + k, x.corner(0, k, 0), -12);
            Check.due("13: k, axis 1, " + k, x.corner(0, k, 1), -12);
        }
        x.box(0, 1, 2, 111, 1);
        Check.due("13: of one cell", x.corner(1, 2, 0), 2);
        Check.due("13: of one cell, Y", x.corner(1, 2, 1), 3);
    }

    private static void dueCorners(String name, PileSteadier x, int box, int[] due) {
        Check.due("13: " + name + ", how many", x.corner(box, -1, 0), due.length / 2);
        for (int i = 0; i < due.length; i++) Check.due("13: " + name + ", " + i, x.corner(box, i / 2, i % 2), due[i]);
    }

    /** As many CONTACTS as there can be: each of the six has a part in the polygon, the last one, too. */
    private static void cornersOfSixContacts() {
        PileSteadier x = new PileSteadier();
        int[][] cells = {{2, 1}, {3, 2}, {2, 3}, {0, 1}, {0, 2}, {1, 0}};
        for (int[] c : cells) x.box(0, c[0], c[1], 111, 1);
        x.box(0, 0, 0, 441, 1);
        Check.due("8: on six", x.on(6, 0), 63);
        dueCorners("six", x, 6, new int[] {0, 1, 1, 0, 2, 0, 4, 2, 4, 3, 3, 4, 2, 4, 0, 3});
    }

    /** Four cells by all orders in which they can come: the same polygon, from the same corner on. */
    private static void cornersWhateverTheNumbers() {
        int[][] cells = {{0, 2}, {1, 0}, {3, 1}, {2, 3}};
        for (int order = 0; order < 256; order++) {
            int[] turn = {order % 4, order / 4 % 4, order / 16 % 4, order / 64};
            if ((1 << turn[0] | 1 << turn[1] | 1 << turn[2] | 1 << turn[3]) != 15) continue;
            PileSteadier x = new PileSteadier();
            for (int t : turn) x.box(0, cells[t][0], cells[t][1], 111, 1);
            x.box(0, 0, 0, 441, 1);
            dueCorners("order " + order, x, 4, new int[] {0, 2, 1, 0, 2, 0, 4, 1, 4, 2, 3, 4, 2, 4, 0, 3});
            Check.due("14: within, order " + order, x.lies(4), 2);
        }
    }

    /** A cell at 3, 3 bears one alone: its centre is within the cell, on its edge, on its corner, or outside. */
    private static void onCornersAndEdges() {
        int[][] due = {
            {331, 2, 2, 2}, {111, 3, 3, 2}, {441, 2, 2, 1}, {441, 1, 1, 1}, {441, 2, 1, 1}, {441, 1, 2, 1},
            {221, 3, 3, 1}, {221, 2, 2, 1}, {221, 3, 2, 1}, {221, 2, 3, 1}, {211, 3, 3, 1}, {211, 2, 3, 1},
            {121, 3, 3, 1}, {121, 3, 2, 1}, {311, 3, 3, 0}, {311, 1, 3, 0}, {131, 3, 3, 0}, {131, 3, 1, 0},
            {311, 2, 3, 2}, {131, 3, 2, 2}, {441, 0, 0, 0}, {441, 3, 3, 0}, {421, 0, 3, 0}, {241, 2, 0, 0},
        };
        for (int[] d : due) {
            PileSteadier x = new PileSteadier();
            x.box(0, 3, 3, 111, 1);
            x.box(0, d[1], d[2], d[0], 1);
            String name = d[0] + " at " + d[1] + ", " + d[2];
            Check.due("14: " + name, x.lies(1), d[3]);
            Check.due("15: TIPS only outside, " + name, x.stands(2), d[3] == 0 ? 2 : 0);
            Check.due("15: STANDS on the edge, " + name, x.stands(3), d[3] == 0 ? 1 : 3);
            Check.due("13: four corners, " + name, x.corner(1, -1, 0), 4);
        }
    }

    /** A centre that lies on each of the four edges, by a weight one more or one less. */
    private static void aHairBeyond() {
        for (int side = 0; side < 4; side++) {
            boolean along = side < 2, more = side % 2 == 0;
            PileSteadier x = new PileSteadier();
            // A plank of three cells, its end cell borne; a cell upon that end, which holds it down.
            x.box(0, along ? 3 : 0, along ? 0 : 3, 111, 1);
            int from = more ? 3 : 1;
            x.box(0, along ? from : 0, along ? 0 : from, along ? 311 : 131, 500);
            x.box(0, along ? 3 : 0, along ? 0 : 3, 111, 500);
            Check.due("14: held on the edge, side " + side, x.lies(1), 1);
            x.weigh(2, 1, 499);
            Check.due("14: held by 1 less, side " + side, x.lies(1), 0);
            Check.due("15: TIPS, side " + side, x.stands(2), 2);
            x.kind(0, 0, 9);
            Check.due("16: FAIL, side " + side, x.fails(0), 1);
            Check.due("16: WHY, side " + side, x.fails(1), 3);
            x.weigh(2, 3, 167);
            Check.due("14: held by 1 more, side " + side, x.lies(1), 2);
            Check.due("15: TIPS no more, side " + side, x.stands(2), 0);
        }
    }
}
