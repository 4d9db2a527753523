/** Promises 19 to 21: who is free, who is in the way, orders. */
final class DoorTest {
    private DoorTest() { }

    static void run() {
        free();
        freeWithoutOthers();
        ways();
        orders();
        ordersOfMany();
        noOrder();
        firstFreeIsATrap();
    }

    private static void free() {
        Check.due("19: empty", Scenes.empty().free(), 0);
        Check.due("19: tower", Scenes.tower().free(), 8);
        Check.due("19: row", Scenes.row().free(), 4);
        Check.due("19: bridge", Scenes.bridge().free(), 4);
        PileSteadier one = new PileSteadier();
        one.box(0, 3, 3, 111, 1);
        Check.due("19: alone", one.free(), 1);
    }

    /** Without the one that tips all stand; without the one that holds it down, it tips. */
    private static void freeWithoutOthers() {
        PileSteadier x = Scenes.tipping();
        Check.due("19: the one that tips may go", x.free(), 2);
        PileSteadier held = new PileSteadier();
        held.box(0, 0, 0, 111, 10);
        held.box(0, 0, 0, 311, 10);
        held.box(0, 0, 0, 111, 30);
        Check.due("19: held down", held.stands(3), 7);
        Check.due("19: who holds it down isn't free", held.free(), 0);
        Check.due("19: off", held.off(2), PileSteadier.STATE);
        PileSteadier two = Scenes.tipping();
        two.box(0, 5, 5, 111, 1);
        Check.due("19: another one tips all the same", two.free(), 2);
    }

    private static void ways() {
        PileSteadier x = new PileSteadier();
        x.box(0, 0, 2, 222, 1);
        x.box(0, 2, 0, 122, 1);
        x.box(0, 4, 3, 122, 1);
        x.box(0, 6, 3, 111, 1);
        x.box(0, 4, 3, 122, 1);
        Check.due("20: along Y, only an edge, and higher up", x.way(0), 4 + 8);
        Check.due("20: none beyond", x.way(3), 0);
        Check.due("20: none along Y", x.way(1), 0);
        Check.due("20: one ahead", x.way(2), 8);
        Check.due("20: higher than that", x.way(4), 0);
        Check.due("20: box", x.way(5), PileSteadier.BAD);
        Check.due("20: box below", x.way(-1), PileSteadier.BAD);
        x.off(3);
        Check.due("20: one that is gone", x.way(0), 4);
        Check.due("20: of one that is gone", x.way(3), PileSteadier.BAD);
        PileSteadier touching = Scenes.row();
        Check.due("20: X is just X and W", touching.way(0), 6);
        PileSteadier over = new PileSteadier();
        over.box(0, 0, 0, 221, 1);
        over.box(0, 1, 0, 111, 1);
        Check.due("20: above isn't ahead", over.way(0), 0);
    }

    private static void dueOrders(String name, PileSteadier x, int many, int[] first) {
        Check.due("21: " + name + ", how many", x.order(PileSteadier.NONE), many);
        for (int k = 0; k < first.length; k++) Check.due("21: " + name + ", " + k, x.order(k), first[k]);
        Check.due("21: " + name + ", beyond", x.order(first.length), -12);
        Check.due("21: " + name + ", below", x.order(-2), -12);
    }

    private static void orders() {
        dueOrders("empty", Scenes.empty(), 1, new int[] {});
        dueOrders("tower", Scenes.tower(), 1, new int[] {3, 2, 1, 0});
        dueOrders("row", Scenes.row(), 1, new int[] {2, 1, 0});
        dueOrders("bridge", Scenes.bridge(), 1, new int[] {2, 1, 0});
        dueOrders("tipping", Scenes.tipping(), 1, new int[] {1, 0});
        PileSteadier x = new PileSteadier();
        x.box(0, 0, 0, 111, 1);
        x.box(0, 1, 0, 111, 1);
        x.box(0, 0, 1, 111, 1);
        x.box(0, 1, 1, 111, 1);
        dueOrders("two rows", x, 6, new int[] {1, 0, 3, 2});
        x.off(3);
        dueOrders("two rows, one gone", x, 3, new int[] {1, 0, 2});
    }

    private static void ordersOfMany() {
        PileSteadier x = new PileSteadier();
        for (int i = 0; i < 7; i++) x.box(0, 6 - i, i, 111, 1);
        dueOrders("each free", x, 5040, new int[] {0, 1, 2, 3, 4, 5, 6});
    }

    private static void noOrder() {
        PileSteadier x = new PileSteadier();
        x.box(0, 0, 0, 111, 10);
        x.box(0, 0, 0, 311, 10);
        x.box(0, 0, 0, 111, 30);
        dueOrders("held down", x, 0, new int[] {-1, -1, -1});
    }

    /** A seesaw: 2 is free at first, but once it is gone, neither 3 nor 4 can go without the other's tipping it. */
    private static void firstFreeIsATrap() {
        PileSteadier x = new PileSteadier();
        x.box(0, 1, 0, 221, 10);
        x.box(0, 0, 0, 421, 10);
        x.box(0, 3, 0, 111, 4);
        x.box(0, 0, 1, 111, 24);
        x.box(0, 3, 1, 111, 24);
        Check.due("19: of the seesaw", x.free(), 4 + 16);
        dueOrders("seesaw", x, 1, new int[] {4, 3, 2, 1, 0});
        x.off(2);
        Check.due("19: none of the seesaw", x.free(), 0);
        dueOrders("seesaw, one gone", x, 0, new int[] {-1, -1, -1, -1});
    }
}
