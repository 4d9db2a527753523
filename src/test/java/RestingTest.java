/** Promises 8 to 14: contacts, loads, parts, centres, polygons. */
final class RestingTest {
    private RestingTest() { }

    static void run() {
        onWhat();
        contacts();
        loads();
        leftOvers();
        badTwos();
        centres();
        centresOfKinds();
        corners();
        cornersOfAnOutline();
        lies();
    }

    private static void onWhat() {
        PileSteadier x = Scenes.bridge();
        Check.due("8: on two", x.on(2, 0), 3);
        Check.due("8: on the floor", x.on(0, 0), 0);
        Check.due("8: under one", x.on(1, 1), 4);
        Check.due("8: under none", x.on(2, 1), 0);
        Check.due("8: what", x.on(0, 2), PileSteadier.BAD);
        Check.due("8: what below", x.on(0, -1), PileSteadier.BAD);
        Check.due("8: box", x.on(3, 0), PileSteadier.BAD);
        x.off(2);
        Check.due("8: under one that is gone", x.on(1, 1), 0);
        Check.due("8: gone", x.on(2, 0), PileSteadier.BAD);
        PileSteadier lower = new PileSteadier();
        lower.box(0, 0, 0, 111, 1);
        lower.box(0, 1, 0, 112, 1);
        lower.box(0, 0, 0, 311, 1);
        Check.due("8: only on those whose top is its Z", lower.on(2, 0), 2);
        Check.due("8: an edge in common is no contact", edgeOnly().on(1, 1), 0);
    }

    /** Two crates side by side, a third on the first alone. */
    private static PileSteadier edgeOnly() {
        PileSteadier x = new PileSteadier();
        x.box(0, 0, 0, 221, 1);
        x.box(0, 2, 0, 221, 1);
        x.box(0, 0, 0, 221, 1);
        return x;
    }

    private static void contacts() {
        PileSteadier x = Scenes.bridge();
        Check.due("9: with the first", x.contact(2, 0), 4);
        Check.due("9: with the second", x.contact(2, 1), 1);
        Check.due("9: the other way round", x.contact(0, 2), 0);
        Check.due("9: beside", x.contact(0, 1), 0);
        Check.due("9: with the floor", x.contact(0, PileSteadier.NONE), 4);
        x.box(0, 4, 4, 341, 1);
        Check.due("9: all its area", x.contact(3, PileSteadier.NONE), 12);
        Check.due("9: not on the floor", x.contact(2, PileSteadier.NONE), 0);
    }

    private static void loads() {
        PileSteadier x = Scenes.tower();
        for (int b = 0; b < 4; b++) Check.due("10: of the tower", x.load(b), 30 - 10 * b);
        Check.due("10: none such", x.load(4), PileSteadier.BAD);
        Check.due("10: below", x.load(-1), PileSteadier.BAD);
        x.off(3);
        Check.due("10: gone", x.load(3), PileSteadier.BAD);
        Check.due("10: less", x.load(0), 20);
        Check.due("11: on", x.hands(1, 0), 20);
        Check.due("11: all to the floor", x.hands(0, PileSteadier.NONE), 30);
    }

    /** 8 by areas 4 and 1: 6 and 1, and 1 is left over for the first. */
    private static void leftOvers() {
        PileSteadier x = Scenes.bridge();
        Check.due("11: the greater part, and what is left over", x.hands(2, 0), 7);
        Check.due("11: the lesser part", x.hands(2, 1), 1);
        Check.due("10: first", x.load(0), 7);
        Check.due("10: second", x.load(1), 1);
        Check.due("11: not on it", x.hands(0, 2), 0);
        Check.due("11: not on the floor", x.hands(2, PileSteadier.NONE), 0);
        Check.due("11: first to the floor", x.hands(0, PileSteadier.NONE), 17);
        PileSteadier four = new PileSteadier();
        for (int i = 0; i < 4; i++) four.box(0, i % 2, i / 2, 111, 1);
        four.box(0, 0, 0, 221, 7);
        int[] due = {2, 2, 2, 1};
        for (int i = 0; i < 4; i++) Check.due("11: 7 by four", four.hands(4, i), due[i]);
        four.weigh(4, 1, 1);
        Check.due("11: 1 by four, first", four.hands(4, 0), 1);
        Check.due("11: 1 by four, last", four.hands(4, 3), 0);
        four.box(0, 0, 0, 221, 12);
        Check.due("11: what is handed on is handed down", four.hands(4, 0), 4);
        Check.due("10: handed on", four.load(1), 3);
    }

    private static void badTwos() {
        PileSteadier x = Scenes.bridge();
        int[][] bad = {{0, 0}, {0, 3}, {3, 0}, {0, -2}, {-1, 0}, {-1, -1}, {7, 0}, {0, 7}, {3, -1}};
        for (int[] b : bad) {
            Check.due("9: contact(" + b[0] + ", " + b[1] + ")", x.contact(b[0], b[1]), PileSteadier.BAD);
            Check.due("11: hands(" + b[0] + ", " + b[1] + ")", x.hands(b[0], b[1]), PileSteadier.BAD);
        }
        x.off(2);
        Check.due("9: with one that is gone", x.contact(0, 2), PileSteadier.BAD);
        Check.due("11: to one that is gone", x.hands(0, 2), PileSteadier.BAD);
    }

    private static void dueCentre(String name, PileSteadier x, int box, long[] due) {
        for (int i = 0; i < 4; i++) Check.due(name + ", " + i, x.centre(box, i / 2, i % 2), due[i]);
    }

    private static void centres() {
        PileSteadier x = Scenes.bridge();
        dueCentre("12: alone", x, 2, new long[] {2, 1, 1, 1});
        // 10 at 1 and 7 at 1; 10 at 5/2 and 1 at 5/2; along Y 10 at 1/2 and 1 at 1/2.
        dueCentre("12: under the bridge", x, 0, new long[] {1, 1, 1, 1});
        dueCentre("12: at its middle", x, 1, new long[] {5, 2, 1, 2});
        x.box(0, 3, 1, 111, 3);
        // 8 at 2 and 3 at 7/2: 53 by 22; along Y 8 at 1 and 3 at 3/2: 25 by 22.
        dueCentre("12: with a part", x, 2, new long[] {53, 22, 25, 22});
        Check.due("12: axis", x.centre(0, 2, 0), PileSteadier.NO);
        Check.due("12: axis below", x.centre(0, -1, 0), PileSteadier.NO);
        Check.due("12: part", x.centre(0, 0, 2), PileSteadier.NO);
        Check.due("12: part below", x.centre(0, 0, -1), PileSteadier.NO);
        Check.due("12: box", x.centre(4, 0, 0), PileSteadier.NO);
        x.off(3);
        Check.due("12: gone", x.centre(3, 0, 0), PileSteadier.NO);
        Check.due("12: NO", PileSteadier.NO, Long.MIN_VALUE);
    }

    private static void centresOfKinds() {
        PileSteadier x = new PileSteadier();
        x.box(0, 1, 2, 341, 5);
        long[][] due = {
            {5, 2, 4, 1}, {5, 2, 4, 1}, {71, 20, 4, 1}, {5, 2, 4, 1}, {5, 2, 27, 5}, {29, 20, 4, 1},
        };
        for (int kind = 0; kind < 6; kind++) {
            x.kind(0, kind, 7);
            dueCentre("12: own centre of kind " + kind, x, 0, due[kind]);
        }
    }

    private static void dueCorners(String name, PileSteadier x, int box, int[] due) {
        Check.due(name + ", how many", x.corner(box, PileSteadier.NONE, 0), due.length / 2);
        for (int i = 0; i < due.length; i++) Check.due(name + ", " + i, x.corner(box, i / 2, i % 2), due[i]);
        Check.due(name + ", beyond", x.corner(box, due.length / 2, 0), -12);
    }

    private static void corners() {
        PileSteadier x = Scenes.bridge();
        dueCorners("13: on the floor", x, 1, new int[] {2, 0, 3, 0, 3, 1, 2, 1});
        // A square 2 by 2 and a square 1 by 1 beside it, lower end to lower end.
        dueCorners("13: on two", x, 2, new int[] {0, 0, 3, 0, 3, 1, 2, 2, 0, 2});
        Check.due("13: k below NONE", x.corner(0, -2, 0), -12);
        Check.due("13: axis", x.corner(0, 0, 2), PileSteadier.BAD);
        Check.due("13: axis by NONE", x.corner(0, PileSteadier.NONE, 2), PileSteadier.BAD);
        Check.due("13: axis below by NONE", x.corner(0, PileSteadier.NONE, -1), PileSteadier.BAD);
        Check.due("13: axis ahead of k", x.corner(0, 9, 2), PileSteadier.BAD);
        Check.due("13: box", x.corner(3, 0, 0), PileSteadier.BAD);
        x.off(2);
        Check.due("13: gone", x.corner(2, 0, 0), PileSteadier.BAD);
    }

    /** Squares in the middles of four sides: eight corners; then squares in the corners, none on an edge. */
    private static void cornersOfAnOutline() {
        PileSteadier x = new PileSteadier();
        x.box(0, 2, 1, 111, 1);
        x.box(0, 1, 2, 121, 1);
        x.box(0, 3, 4, 111, 1);
        x.box(0, 4, 2, 111, 1);
        x.box(0, 1, 1, 441, 1);
        dueCorners("13: eight", x, 4, new int[] {1, 2, 2, 1, 3, 1, 5, 2, 5, 3, 4, 5, 3, 5, 1, 4});
        PileSteadier squares = new PileSteadier();
        squares.box(0, 0, 0, 111, 1);
        squares.box(0, 2, 0, 111, 1);
        squares.box(0, 0, 2, 111, 1);
        squares.box(0, 2, 2, 111, 1);
        squares.box(0, 1, 1, 111, 1);
        squares.box(0, 0, 0, 331, 1);
        dueCorners("13: none on an edge", squares, 5, new int[] {0, 0, 3, 0, 3, 3, 0, 3});
    }

    private static void lies() {
        PileSteadier x = new PileSteadier();
        x.box(0, 0, 0, 111, 10);
        x.box(0, 0, 0, 211, 10);
        Check.due("14: within", x.lies(0), 2);
        Check.due("14: on the edge", x.lies(1), 1);
        x.kind(1, 2, 1);
        Check.due("14: a 20th beyond the edge", x.lies(1), 0);
        x.kind(1, 5, 1);
        Check.due("14: a 20th within", x.lies(1), 2);
        Check.due("14: box", x.lies(2), PileSteadier.BAD);
        Check.due("14: box below", x.lies(-1), PileSteadier.BAD);
        x.off(1);
        Check.due("14: gone", x.lies(1), PileSteadier.BAD);
        // On the slanting edge of a polygon: squares at two corners, the centre in their middle.
        PileSteadier slant = new PileSteadier();
        slant.box(0, 0, 0, 111, 1);
        slant.box(0, 2, 2, 111, 1);
        slant.box(0, 0, 0, 331, 1);
        Check.due("14: between two squares", slant.lies(2), 2);
        // Handed loads pull the centre: 1 at 3/2, 3 at 5/2 along X, at 1/2 along Y.
        slant.box(0, 2, 0, 111, 3);
        Check.due("14: pulled beyond the slanting edge", slant.lies(2), 0);
        slant.weigh(2, 2, 1);
        slant.weigh(3, 2, 1);
        Check.due("14: pulled on the slanting edge", slant.lies(2), 1);
        slant.weigh(2, 3, 1);
        Check.due("14: pulled within", slant.lies(2), 2);
    }
}
