/** Piles and tapes that several tests begin with. */
final class Scenes {
    private Scenes() { }

    static PileSteadier empty() {
        return new PileSteadier();
    }

    /** Feeds the letters of a text to the tape. */
    static void feed(PileSteadier x, String text) {
        for (int i = 0; i < text.length(); i++) x.feed(1, text.charAt(i), 0, 0, 0, 0);
    }

    static int say(PileSteadier x, String text) {
        feed(x, text);
        return x.text();
    }

    /** Two crates on the floor (0, 1), a third (2) that rests on both by unlike areas. */
    static PileSteadier bridge() {
        PileSteadier x = new PileSteadier();
        x.box(0, 0, 0, 222, 10);
        x.box(0, 2, 0, 112, 10);
        x.box(0, 0, 0, 421, 8);
        return x;
    }

    /** Four crates, one upon the other (0 the lowest), each of weight 10. */
    static PileSteadier tower() {
        PileSteadier x = new PileSteadier();
        for (int i = 0; i < 4; i++) x.box(0, 0, 0, 221, 10);
        return x;
    }

    /** Three crates in a row towards the door: 0 farthest from it. */
    static PileSteadier row() {
        PileSteadier x = new PileSteadier();
        for (int i = 0; i < 3; i++) x.box(0, 2 * i, 0, 222, 10);
        return x;
    }

    /** A crate on the floor (0) and one upon it that tips (1). */
    static PileSteadier tipping() {
        PileSteadier x = new PileSteadier();
        x.box(0, 0, 0, 111, 10);
        x.box(0, 0, 0, 311, 10);
        return x;
    }

    /** Puts numbers into a sheet, made anew. */
    static void write(PileSteadier x, int sheet, int sort, int... numbers) {
        x.sheet(sheet, sort, numbers.length);
        for (int i = 0; i < numbers.length; i++) x.put(sheet, i, numbers[i]);
    }
}
