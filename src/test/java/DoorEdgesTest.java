/** Terms 2, promises 19 to 21: edges in common along Y and in height, the least and the greatest k and orders. */
final class DoorEdgesTest {
    private DoorEdgesTest() { }

    static void run() {
        nobody();
        edgesAlongY();
        edgesInHeight();
        justAhead();
        nothingBehindIsInTheWay();
        whoRestsOnItIsntInTheWay();
        allOthersStand();
        whichK();
        whichKWithoutOrder();
        leastAndGreatestOrders();
    }

    private static void nobody() {
        PileSteadier x = new PileSteadier();
        Check.due("19: nobody came", x.free(), 0);
        Check.due("21: nobody came", x.order(-1), 1);
        for (int k : Edges.outside(-1, -1)) Check.due("21: nobody came, k " + k, x.order(k), -12);
        x.box(0, 0, 0, 111, 1);
        x.off(0);
        Check.due("19: nobody is there", x.free(), 0);
        Check.due("21: nobody is there", x.order(-1), 1);
        Check.due("21: nobody is there, k 0", x.order(0), -12);
    }

    /** One of D 2 at Y 3; others of D 1 and 2 ahead of it at each Y. */
    private static void edgesAlongY() {
        for (int depth = 1; depth <= 2; depth++) {
            for (int y = 0; y <= 6; y++) {
                PileSteadier x = new PileSteadier();
                x.box(0, 0, 3, 221, 1);
                x.box(0, 5, y, 101 + 10 * depth, 1);
                boolean inWay = y + depth > 3 && y < 5;
                String name = ", Y " + y + ", D " + depth;
                Check.due("20: along Y" + name, x.way(0), inWay ? 2 : 0);
                Check.due("20: it has the door before it" + name, x.way(1), 0);
                Check.due("19: free" + name, x.free(), inWay ? 2 : 3);
                Check.due("21: orders" + name, x.order(-1), inWay ? 1 : 2);
            }
        }
    }

    /** One at Z 3 to TOP 5; ahead of it one at each Z, 1 and 2 high. */
    private static void edgesInHeight() {
        for (int high = 1; high <= 2; high++) {
            for (int z = 1; z <= 6; z++) {
                PileSteadier x = new PileSteadier();
                x.box(0, 0, 0, 113, 1);
                x.box(0, 0, 0, 112, 1);
                x.box(0, 1, 0, 110 + Math.min(z, 4), 1);
                if (z > 4) x.box(0, 1, 0, 110 + z - 4, 1);
                int it = x.box(0, 1, 0, 110 + high, 1);
                String name = ", Z " + z + ", H " + high;
                Check.due("3: Z" + name, x.of(it, 4), z);
                boolean inWay = z + high > 3 && z < 5;
                Check.due("20: in height" + name, x.way(1) >> it & 1, inWay ? 1 : 0);
                Check.due("20: another in height" + name, x.way(0) >> it & 1, z < 3 ? 1 : 0);
            }
        }
    }

    /** X of that is X and W of this, just: it is in the way; also at the farthest end of the floor. */
    private static void justAhead() {
        for (int w = 1; w <= 4; w++) {
            PileSteadier x = new PileSteadier();
            x.box(0, 0, 0, 100 * w + 11, 1);
            x.box(0, w, 0, 111, 1);
            x.box(0, 7, 0, 111, 1);
            Check.due("20: just ahead, and farthest, W " + w, x.way(0), 6);
            Check.due("20: the next", x.way(1), 4);
            Check.due("20: at the door", x.way(2), 0);
            Check.due("19: only that at the door", x.free(), 4);
        }
    }

    private static void nothingBehindIsInTheWay() {
        PileSteadier x = new PileSteadier();
        x.box(0, 4, 0, 221, 1);
        x.box(0, 3, 0, 111, 1);
        x.box(0, 0, 0, 211, 1);
        x.box(0, 4, 2, 211, 1);
        Check.due("20: behind, and beside", x.way(0), 0);
        Check.due("20: of that behind", x.way(1), 1);
        Check.due("20: of that farthest behind", x.way(2), 3);
        Check.due("20: of that beside", x.way(3), 0);
        x.off(0);
        Check.due("20: one that is gone isn't in the way", x.way(2), 2);
    }

    private static void whoRestsOnItIsntInTheWay() {
        PileSteadier x = new PileSteadier();
        x.box(0, 0, 0, 221, 1);
        x.box(0, 0, 0, 221, 1);
        Check.due("20: of that below", x.way(0), 0);
        Check.due("20: of that above", x.way(1), 0);
        Check.due("19: on which one RESTS", x.free(), 2);
        // A plank that stands out beyond it has an X less than its X and W.
        PileSteadier out = new PileSteadier();
        out.box(0, 0, 0, 221, 9);
        out.box(0, 1, 0, 211, 1);
        Check.due("20: that stands out", out.way(0), 0);
        Check.due("19: that stands out", out.free(), 2);
    }

    private static void allOthersStand() {
        PileSteadier x = Scenes.tipping();
        x.box(0, 0, 0, 111, 10);
        Check.due("14: just held on the edge", x.lies(1), 1);
        Check.due("19: it holds another", x.free(), 0);
        Check.due("7: it holds another", x.off(2), PileSteadier.STATE);
        x.weigh(1, 1, 1);
        Check.due("19: light, it tips all the same", x.free(), 0);
        PileSteadier crushed = new PileSteadier();
        crushed.box(1, 0, 0, 221, 1);
        crushed.box(0, 0, 0, 221, 1);
        crushed.box(0, 5, 5, 111, 1);
        Check.due("19: who crushes may go, another not", crushed.free(), 2);
    }

    private static void whichK() {
        PileSteadier x = Scenes.row();
        for (int k : Edges.outside(-1, 2)) Check.due("21: k " + k, x.order(k), -12);
        int[] due = {1, 2, 1, 0};
        for (int k = -1; k <= 2; k++) Check.due("21: k " + k, x.order(k), due[k + 1]);
        x.off(2);
        Check.due("21: k, as many as are there", x.order(2), -12);
        Check.due("21: last k", x.order(1), 0);
    }

    private static void whichKWithoutOrder() {
        PileSteadier x = Scenes.tipping();
        x.box(0, 0, 0, 111, 30);
        Check.due("21: no order", x.order(-1), 0);
        for (int k = 0; k < 3; k++) Check.due("21: no order, k " + k, x.order(k), -1);
        for (int k : Edges.outside(-1, 2)) Check.due("21: -12 ahead of NONE, k " + k, x.order(k), -12);
        Check.due("29: no order", x.film(0), -1);
    }

    private static void leastAndGreatestOrders() {
        PileSteadier seven = new PileSteadier();
        for (int i = 0; i < 7; i++) seven.box(0, 0, i, 411, 1);
        Check.due("21: seven, each free", seven.order(-1), 5040);
        for (int k = 0; k < 7; k++) Check.due("21: the first by numbers", seven.order(k), k);
        Check.due("21: k 7", seven.order(7), -12);
        Check.due("19: all seven", seven.free(), 127);
        PileSteadier tower = new PileSteadier();
        for (int i = 0; i < 7; i++) tower.box(0, 0, 0, 111, 1);
        Check.due("21: seven upon one another", tower.order(-1), 1);
        for (int k = 0; k < 7; k++) Check.due("21: from above", tower.order(k), 6 - k);
        PileSteadier one = new PileSteadier();
        one.box(0, 7, 7, 111, 1);
        Check.due("21: one", one.order(-1), 1);
        Check.due("21: one, k 0", one.order(0), 0);
        Check.due("21: one, k 1", one.order(1), -12);
    }
}
