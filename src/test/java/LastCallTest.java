import java.util.function.ToLongFunction;

/** An object answers 512 calls: the last one as the first, also of those that take the most work. */
final class LastCallTest {
    private static final int CALLS = 512;

    private LastCallTest() { }

    static void run() {
        asked("21: orders", 5040, x -> x.order(-1));
        asked("21: the last of the first order", 6, x -> x.order(6));
        asked("19: free", 127, PileSteadier::free);
        asked("18: most", 50, x -> x.most(0));
        asked("25: chance", 1, x -> x.chance(1, 20, 1, 1) > 0 ? 1 : 0);
        asked("29: film", 7, x -> x.film(3));
        asked("28: kinds", 63, x -> x.tells(0, 10));
        asked("31: image", 7, PileSteadier::image);
        asked("27: text", -100, PileSteadier::text);
        asked("34: sheet", 1, x -> x.sheet(0, 1, 40));
        spots();
        textsToTheLast();
        comesToTheLast();
    }

    /** Seven side by side, each 2 high: all free. */
    private static PileSteadier seven() {
        PileSteadier x = new PileSteadier();
        for (int i = 0; i < 7; i++) x.box(0, i, i, 112, 1);
        return x;
    }

    private static void asked(String name, long due, ToLongFunction<PileSteadier> call) {
        PileSteadier x = seven();
        for (int i = 7; i < CALLS; i++) Check.due(name + ", call " + i, call.applyAsLong(x), due);
    }

    private static void spots() {
        PileSteadier x = new PileSteadier();
        for (int i = 0; i < 6; i++) x.box(0, i, i, 112, 1);
        for (int i = 6; i < CALLS; i++) Check.due("23: spots, call " + i, x.spot(111, 9, 1), 64);
    }

    /** Every 13 calls another tape of 60 bytes is read. */
    private static void textsToTheLast() {
        PileSteadier x = new PileSteadier();
        x.box(0, 0, 0, 111, 1);
        for (int turn = 0; turn < 39; turn++) {
            for (int i = 0; i < 12; i++) {
                x.feed(5, 'o', 'f', 'f', i < 11 ? '9' : '0', i < 11 ? ';' : ' ');
            }
            Check.due("27: turn " + turn, x.text(), turn == 0 ? 1 : 0);
        }
        Check.due("33: nobody is left", x.count(1), 0);
    }

    /** Boxes come and all is laid back, as often as can be: numbers don't run out. */
    private static void comesToTheLast() {
        PileSteadier x = new PileSteadier();
        x.sheet(0, 0, 5);
        x.put(0, 3, 111);
        x.put(0, 4, 1);
        x.image();
        for (int i = 4; i + 3 <= CALLS; i += 3) {
            Check.due("30: one more", x.comes(0, 0, 0, 1), 1);
            Check.due("2: its number", x.count(0), 1);
            Check.due("32: laid back", x.back(), 0);
        }
    }
}
