/** Terms 2, promises 15 to 18: LOAD just as BEARS, t just as GRIP, sides, the least and the greatest MOST. */
final class StandEdgesTest {
    private static final int BAD = PileSteadier.BAD;

    private StandEdgesTest() { }

    static void run() {
        whats();
        loadAsItBears();
        noLoadAtAll();
        fallsOnlyInThought();
        whyInTurn();
        causesAtTheEnds();
        sidesAndTilts();
        tiltOfNothing();
        tiltAsGrip();
        tiltUpToTheEdge();
        leastAndGreatestMost();
    }

    private static void whats() {
        PileSteadier x = Scenes.tipping();
        for (int what : Edges.outside(0, 4)) {
            Check.due("15: what " + what, x.stands(what), BAD);
            Check.due("16: what " + what, x.fails(what), BAD);
        }
        PileSteadier seven = new PileSteadier();
        for (int i = 0; i < 7; i++) seven.box(0, i, i, 111, 1);
        Check.due("15: all seven STAND", seven.stands(3), 127);
        Check.due("15: none of seven FALLS", seven.stands(0), 0);
    }

    /** Four upon one: their weights are what it bears. */
    private static void weighFour(PileSteadier x, int load) {
        int rest = load;
        for (int i = 1; i <= 4; i++) {
            int weight = Math.min(999, rest - (4 - i));
            x.weigh(i, 1, weight);
            rest -= weight;
        }
    }

    private static void loadAsItBears() {
        int[][] bears = {{0, 0, 600}, {0, 9, 1500}, {1, 1, 20}, {1, 9, 180}, {2, 0, 1200}, {2, 9, 3000}, {3, 1, 10},
            {3, 9, 90}, {4, 0, 300}, {4, 9, 300}, {5, 0, 1200}, {5, 9, 3000}};
        for (int[] b : bears) {
            PileSteadier x = new PileSteadier();
            x.box(b[0], 0, 0, 441, 1);
            x.kind(0, b[0], b[1]);
            for (int i = 0; i < 4; i++) x.box(0, i % 2 * 2, i / 2 * 2, 221, 1);
            String name = ", KIND " + b[0] + ", FIGURE " + b[1];
            weighFour(x, b[2]);
            Check.due("10: LOAD" + name, x.load(0), b[2]);
            Check.due("15: LOAD just as BEARS" + name, x.stands(1), 0);
            Check.due("16: nobody FAILS" + name, x.fails(0), -1);
            weighFour(x, b[2] + 1);
            Check.due("15: LOAD 1 above BEARS" + name, x.stands(1), 1);
            Check.due("16: CRUSHED" + name, x.fails(1), 2);
            Check.due("17: CRUSHED by any TILT" + name, x.tilt(0, 0) & 1, 1);
            Check.due("18: NONE" + name, x.most(0), -1);
        }
    }

    private static void noLoadAtAll() {
        for (int kind : new int[] {1, 3}) {
            PileSteadier x = new PileSteadier();
            x.box(kind, 0, 0, 221, 999);
            Check.due("15: BEARS 0, LOAD 0", x.stands(1), 0);
            Check.due("15: BEARS 0, LOAD 0, it STANDS", x.stands(3), 1);
            x.box(0, 0, 0, 111, 1);
            Check.due("15: BEARS 0, LOAD 1", x.stands(1), 1);
            Check.due("22: without that", x.without(1), 0);
        }
    }

    /** Without 1, 2 falls: it hands nothing down, though 3 on it does; 0 that bears nothing stands then. */
    private static void fallsOnlyInThought() {
        PileSteadier x = new PileSteadier();
        x.box(3, 0, 0, 221, 10);
        for (int i = 1; i < 4; i++) x.box(0, 0, 0, 221, 10);
        Check.due("15: nobody FALLS truly", x.stands(0), 0);
        Check.due("15: CRUSHED", x.stands(1), 1);
        Check.due("22: one FALLS, nobody is CRUSHED", x.without(1), 4);
        Check.due("22: the highest gone, still CRUSHED", x.without(3), 1);
        Check.due("22: the lowest gone", x.without(0), 2);
        x.kind(2, 1, 0);
        Check.due("22: one that FALLS would be CRUSHED, too", x.without(1), 4);
        Check.due("15: truly both are CRUSHED", x.stands(1), 5);
    }

    /** CRUSHED and its centre outside: it is told once, as CRUSHED. */
    private static void whyInTurn() {
        PileSteadier x = new PileSteadier();
        x.box(0, 0, 0, 111, 1);
        x.box(1, 0, 0, 311, 1);
        Check.due("16: WHY 3", x.fails(1), 3);
        x.box(0, 2, 0, 111, 1);
        Check.due("14: outside", x.lies(1), 0);
        Check.due("16: WHY 2 ahead of 3", x.fails(1), 2);
        Check.due("15: CRUSHED", x.stands(1), 2);
        Check.due("15: TIPS, of others only", x.stands(2), 0);
        Check.due("15: STANDS", x.stands(3), 5);
        x.kind(1, 1, 1);
        Check.due("16: it bears that: WHY 3", x.fails(1), 3);
        Check.due("15: TIPS", x.stands(2), 2);
    }

    private static void causesAtTheEnds() {
        PileSteadier none = Scenes.tipping();
        int[] due = {1, 3, -1, 0, -1};
        for (int what = 0; what < 5; what++) Check.due("16: nothing on it, " + what, none.fails(what), due[what]);
        PileSteadier one = Scenes.tipping();
        one.box(0, 2, 0, 111, 1);
        int[] dueOne = {1, 3, 2, 1, 2};
        for (int what = 0; what < 5; what++) Check.due("16: one on it, " + what, one.fails(what), dueOne[what]);
        PileSteadier six = new PileSteadier();
        six.box(3, 0, 0, 111, 1);
        for (int i = 1; i < 7; i++) six.box(0, 0, 0, 111, 1);
        int[] dueSix = {0, 2, 1, 6, 6};
        for (int what = 0; what < 5; what++) Check.due("16: six on it, " + what, six.fails(what), dueSix[what]);
        PileSteadier last = new PileSteadier();
        for (int i = 0; i < 5; i++) last.box(0, 7, i, 111, 1);
        last.box(0, 0, 0, 111, 1);
        last.box(0, 0, 0, 411, 1);
        int[] dueLast = {6, 3, -1, 0, -1};
        for (int what = 0; what < 5; what++) Check.due("16: the last alone, " + what, last.fails(what), dueLast[what]);
    }

    private static void sidesAndTilts() {
        PileSteadier x = new PileSteadier();
        x.box(5, 0, 0, 441, 1);
        for (int side : Edges.outside(0, 3)) {
            Check.due("17: side " + side, x.tilt(side, 0), BAD);
            Check.due("18: side " + side, x.most(side), BAD);
        }
        for (int t : Edges.outside(0, 99)) Check.due("17: t " + t, x.tilt(0, t), BAD);
        for (int side = 0; side < 4; side++) {
            Check.due("17: least t", x.tilt(side, 0), 0);
            Check.due("17: greatest t", x.tilt(side, 99), 1);
        }
    }

    /** By t 0 the same don't stand as untilted, to whichever side. */
    private static void tiltOfNothing() {
        for (int side = 0; side < 4; side++) {
            Check.due("17: t 0, one that TIPS", Scenes.tipping().tilt(side, 0), 2);
            Check.due("17: t 0, all stand", Scenes.tower().tilt(side, 0), 0);
            Check.due("17: nobody there, t 99", Scenes.empty().tilt(side, 99), 0);
        }
    }

    /** A flat box of 4 by 4: by side 2 and 3 nothing but its GRIP is too little. */
    private static void tiltAsGrip() {
        int[][] grips = {{0, 0, 60}, {0, 9, 60}, {1, 0, 60}, {1, 9, 60}, {2, 0, 60}, {2, 1, 61}, {2, 9, 69}, {3, 0, 50},
            {3, 9, 50}, {4, 0, 5}, {4, 9, 14}, {5, 0, 80}, {5, 1, 81}, {5, 9, 89}};
        for (int[] g : grips) {
            PileSteadier x = new PileSteadier();
            x.box(g[0], 2, 3, 441, 11);
            x.kind(0, g[0], g[1]);
            String name = ", KIND " + g[0] + ", FIGURE " + g[1];
            for (int side = 2; side < 4; side++) {
                Check.due("17: t just as GRIP" + name, x.tilt(side, g[2]), 0);
                Check.due("17: t 1 above GRIP" + name, x.tilt(side, g[2] + 1), 1);
                Check.due("18: GRIP" + name, x.most(side), g[2]);
            }
            Check.due("15: it SLIDES only by a TILT" + name, x.stands(3), 1);
        }
    }

    /** For each height H a box of W 1: 1/2 by half of H. To the hundredth: by H 4 25, by H 3 33, by H 2 50. */
    private static void tiltUpToTheEdge() {
        int[] most = {99, 50, 33, 25};
        for (int h = 2; h <= 4; h++) {
            for (int side = 0; side < 4; side++) {
                PileSteadier x = new PileSteadier();
                x.box(5, 3, 3, (side < 2 ? 140 : 410) + h, 3);
                Check.due("17: up to the edge, H " + h, x.tilt(side, most[h - 1]), 0);
                Check.due("17: beyond the edge, H " + h, x.tilt(side, most[h - 1] + 1), 1);
                Check.due("18: up to the edge, H " + h, x.most(side), most[h - 1]);
            }
        }
        tiltWithALoad();
    }

    /** With a LOAD of L on a cube of 2 of WEIGHT W: 100 (W and L) by (W and 2 L), or the GRIP of 80. */
    private static void tiltWithALoad() {
        int[][] due = {{1, 1, 66}, {1, 244, 50}, {999, 1, 80}, {2, 1, 75}, {1, 2, 60}, {3, 2, 71}};
        for (int[] d : due) {
            PileSteadier x = new PileSteadier();
            x.box(5, 2, 2, 222, d[0]);
            x.box(5, 2, 2, 221, d[1]);
            String name = "W " + d[0] + ", L " + d[1] + ", side ";
            for (int side = 0; side < 4; side++) {
                Check.due("18: " + name + side, x.most(side), d[2]);
                Check.due("17: " + name + side, x.tilt(side, d[2]), 0);
                Check.due("17: beyond, " + name + side, x.tilt(side, d[2] + 1) & 1, 1);
            }
        }
    }

    private static void leastAndGreatestMost() {
        PileSteadier safe = new PileSteadier();
        safe.box(5, 0, 0, 441, 1);
        safe.kind(0, 5, 9);
        // Its centre is 1/5 from the edge of side 1: by half of H 1 up to 40.
        int[] due = {89, 40, 89, 89};
        for (int side = 0; side < 4; side++) Check.due("18: SAFE 9, side " + side, safe.most(side), due[side]);
        for (int side = 0; side < 4; side++) Check.due("18: NONE", Scenes.tipping().most(side), -1);
        PileSteadier edge = new PileSteadier();
        edge.box(0, 0, 0, 111, 1);
        edge.box(0, 0, 0, 211, 1);
        int[] dueEdge = {0, 60, 60, 60};
        for (int side = 0; side < 4; side++) Check.due("18: on the edge, side " + side, edge.most(side), dueEdge[side]);
        edge.off(1);
        edge.off(0);
        for (int side = 0; side < 4; side++) Check.due("18: nobody there any more", edge.most(side), 99);
    }
}
