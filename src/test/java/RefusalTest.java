import java.util.List;
import java.util.function.Supplier;
import java.util.function.ToLongFunction;

/** Terms 1: refusals change nothing; and what is asked, or done in thought, changes nothing. */
final class RefusalTest {
    private static final int BAD = PileSteadier.BAD, STATE = PileSteadier.STATE, FULL = PileSteadier.FULL;
    private static final int LEAST = Edges.LEAST, GREATEST = Edges.GREATEST;

    private final Supplier<PileSteadier> scene;
    private final List<Long> before;

    private RefusalTest(Supplier<PileSteadier> scene) {
        this.scene = scene;
        before = Everything.of(scene.get());
    }

    static void run() {
        RefusalTest half = new RefusalTest(RefusalTest::half), full = new RefusalTest(RefusalTest::full);
        half.scenesDiffer(full);
        half.boxesAreRefused();
        half.asksAreRefused();
        half.comesAreRefused();
        half.sheetsAreRefused();
        half.copiesAreRefused();
        half.asksChangeNothing();
        full.fullIsRefused();
        full.asksChangeNothing();
        new RefusalTest(RefusalTest::high).refused("2: TOP above 12", STATE, x -> x.box(0, 0, 0, 111, 1));
        RefusalTest held = new RefusalTest(RefusalTest::held);
        held.refused("29: there is no ORDER", PileSteadier.NONE, x -> x.film(0));
        held.refused("7: others wouldn't stand", STATE, x -> x.off(2));
        new RefusalTest(PileSteadier::new).asksChangeNothing();
    }

    /** Two on the floor, one on both, one on that; 4 is gone; an image, a tape, sheets 0, 1 and 3. */
    private static PileSteadier half() {
        PileSteadier x = new PileSteadier();
        x.box(0, 0, 0, 441, 100);
        x.box(0, 4, 0, 441, 80);
        x.box(0, 2, 1, 421, 60);
        x.box(3, 3, 1, 211, 9);
        x.box(4, 5, 5, 111, 7);
        x.image();
        x.off(4);
        x.kind(2, 2, 3);
        x.weigh(3, 2, 4);
        Scenes.feed(x, "off 3");
        Scenes.write(x, 0, 0, 0, 0, 4, 111, 9);
        Scenes.write(x, 1, 1, 1, 7, 7, 111, 300, 3, 2);
        x.sheet(3, 1, 40);
        return x;
    }

    /** Seven came, 6 is gone; the tape is full; no image. */
    private static PileSteadier full() {
        PileSteadier x = new PileSteadier();
        for (int i = 0; i < 3; i++) x.box(i, 0, 0, 444, 1);
        x.kind(1, 1, 1);
        for (int i = 3; i < 7; i++) x.box(0, i + 1, 7, 111, 10 * i);
        x.off(6);
        for (int i = 0; i < 12; i++) x.feed(5, 'o', 'f', 'f', '5', i < 11 ? ';' : ' ');
        for (int s = 0; s < 4; s++) Scenes.write(x, s, s % 2, 5, 4, 3, s);
        return x;
    }

    /** Three that reach up to 12. */
    private static PileSteadier high() {
        PileSteadier x = new PileSteadier();
        for (int i = 0; i < 3; i++) x.box(0, 0, 0, 444, 1);
        return x;
    }

    /** One that would tip without the one on it: there is no order. */
    private static PileSteadier held() {
        PileSteadier x = Scenes.tipping();
        x.box(0, 0, 0, 111, 30);
        Scenes.write(x, 0, 1, 2, 7, 7, 111, 300);
        return x;
    }

    /** Were all answers alike whatever is done, the tests here would find nothing. */
    private void scenesDiffer(RefusalTest other) {
        Check.holds("1: two scenes differ", !before.equals(other.before));
        Check.holds("1: the same scene, twice", before.equals(Everything.of(scene.get())));
        differs("a box comes", x -> x.box(0, 0, 7, 111, 1));
        differs("a kind", x -> x.kind(0, 0, 1));
        differs("a weight", x -> x.weigh(0, 99, 1));
        differs("a box goes", x -> x.off(3));
        differs("a byte", x -> x.feed(1, '9', 0, 0, 0, 0));
        differs("an image", x -> x.image());
        differs("an image laid back", x -> x.back());
        differs("an item", x -> x.put(1, 4, 301));
        differs("a sheet", x -> x.sheet(3, 0, 40));
        differs("a sheet's size", x -> x.sheet(3, 1, 39));
    }

    private void differs(String name, ToLongFunction<PileSteadier> call) {
        PileSteadier x = scene.get();
        call.applyAsLong(x);
        Check.holds("1: told anew: " + name, !before.equals(Everything.of(x)));
    }

    private void refused(String name, long due, ToLongFunction<PileSteadier> call) {
        PileSteadier x = scene.get();
        Check.due(name, call.applyAsLong(x), due);
        Check.holds("1: a refusal changes nothing, " + name, before.equals(Everything.of(x)));
    }

    private void asked(String name, ToLongFunction<PileSteadier> call) {
        PileSteadier x = scene.get();
        call.applyAsLong(x);
        Check.holds("1: to ask changes nothing, " + name, before.equals(Everything.of(x)));
    }

    private void boxesAreRefused() {
        refused("2: KIND", BAD, x -> x.box(6, 0, 7, 111, 1));
        refused("2: X below", BAD, x -> x.box(0, -1, 7, 111, 1));
        refused("2: X beyond", BAD, x -> x.box(0, 8, 7, 111, 1));
        refused("2: AREA beyond along Y", BAD, x -> x.box(0, 0, 7, 121, 1));
        refused("2: SIZE", BAD, x -> x.box(0, 0, 7, 115, 1));
        refused("2: WEIGHT", BAD, x -> x.box(0, 0, 7, 111, 1000));
        refused("4: KIND", BAD, x -> x.kind(0, 6, 1));
        refused("4: FIGURE", BAD, x -> x.kind(0, 1, 10));
        refused("4: gone", BAD, x -> x.kind(4, 1, 1));
        refused("4: none such", BAD, x -> x.kind(5, 1, 1));
        refused("5: gone", BAD, x -> x.weigh(4, 1, 1));
        refused("5: beyond an int", FULL, x -> x.weigh(0, 641, 6700417));
        refused("5: 0", BAD, x -> x.weigh(0, 0, 1));
        refused("5: 1000", BAD, x -> x.weigh(0, 1, 1000));
        refused("6: not one under that", -13, x -> x.taken(0, 1));
        refused("6: KIND", BAD, x -> x.taken(0, 6));
        refused("7: gone", BAD, x -> x.off(4));
        refused("7: one rests on it", STATE, x -> x.off(2));
    }

    private void asksAreRefused() {
        refused("8: what", BAD, x -> x.on(0, 2));
        refused("9: the same", BAD, x -> x.contact(0, 0));
        refused("10: none such", BAD, x -> x.load(7));
        refused("11: the same", BAD, x -> x.hands(0, 0));
        refused("12: axis", PileSteadier.NO, x -> x.centre(0, 2, 0));
        refused("13: k", -12, x -> x.corner(0, 4, 0));
        refused("15: what", BAD, x -> x.stands(5));
        refused("16: what", BAD, x -> x.fails(5));
        refused("17: t", BAD, x -> x.tilt(0, 100));
        refused("18: side", BAD, x -> x.most(4));
        refused("20: gone", BAD, x -> x.way(4));
        refused("21: k", -12, x -> x.order(4));
        refused("22: gone", BAD, x -> x.without(4));
        refused("23: SIZE", BAD, x -> x.spot(110, 1, 0));
        refused("24: n", BAD, x -> x.bumps(1, 31));
        refused("25: m", BAD, x -> x.chance(1, 21, 1, 0));
        refused("26: n", BAD, x -> x.feed(6, 57, 57, 57, 57, 57));
        refused("26: no byte, not asked", BAD, x -> x.feed(1, 57, 57, 57, 57, 256));
        refused("28: missing", -11, x -> x.tells(2, 0));
        refused("28: gone", BAD, x -> x.tells(0, 14));
        refused("29: SHEET", BAD, x -> x.film(4));
        refused("33: what", BAD, x -> x.count(6));
    }

    private void comesAreRefused() {
        refused("30: SHEET", BAD, x -> x.comes(4, 1, 0, 1));
        refused("30: sort", BAD, x -> x.comes(1, 2, 0, 1));
        refused("30: n", BAD, x -> x.comes(1, 1, 0, 8));
        refused("30: another sort", -13, x -> x.comes(1, 0, 0, 1));
        refused("30: missing", -11, x -> x.comes(2, 1, 0, 1));
        refused("30: from below", -12, x -> x.comes(1, 1, -1, 1));
        refused("30: from beyond", -12, x -> x.comes(1, 1, 3, 1));
        refused("30: from the greatest int", -12, x -> x.comes(1, 1, GREATEST, 7));
        refused("30: one that is left out", 0, x -> x.comes(3, 1, 0, 7));
    }

    private void sheetsAreRefused() {
        refused("34: SHEET", BAD, x -> x.sheet(4, 1, 1));
        refused("34: sort", BAD, x -> x.sheet(0, 2, 1));
        refused("34: n", BAD, x -> x.sheet(0, 1, 41));
        refused("34: n below 0", -14, x -> x.sheet(0, 1, -1));
        refused("34: the least n", -14, x -> x.sheet(1, 0, LEAST));
        refused("35: SHEET", BAD, x -> x.put(4, 0, 1));
        refused("35: missing", -11, x -> x.put(2, 0, 1));
        refused("35: below", -12, x -> x.put(1, -1, 1));
        refused("35: beyond", -12, x -> x.put(1, 7, 1));
    }

    private void copiesAreRefused() {
        refused("36: SHEET", BAD, x -> x.copy(1, 0, 4, 0, 1));
        refused("36: missing", -11, x -> x.copy(2, 0, 3, 0, 1));
        refused("36: the other is missing", -11, x -> x.copy(1, 0, 2, 0, 1));
        refused("36: of unlike sorts", -13, x -> x.copy(0, 0, 1, 0, 1));
        refused("36: beyond", -12, x -> x.copy(1, 0, 3, 0, 8));
        refused("36: beyond in the other", -12, x -> x.copy(1, 0, 3, 34, 7));
        refused("36: within one, beyond", -12, x -> x.copy(1, 0, 1, 1, 7));
        refused("36: n below 0", -12, x -> x.copy(1, 0, 3, 0, -1));
    }

    private void fullIsRefused() {
        refused("2: 7 came", FULL, x -> x.box(0, 7, 0, 111, 1));
        refused("23: 7 came", FULL, x -> x.spot(111, 1, 0));
        refused("26: no room", FULL, x -> x.feed(1, 57, 0, 0, 0, 0));
        refused("32: no image", STATE, x -> x.back());
        refused("30: seven are left out", 0, x -> x.comes(0, 0, 0, 0));
    }

    private void asksChangeNothing() {
        asked("3", x -> x.of(0, 8));
        asked("8", x -> x.on(2, 0));
        asked("12", x -> x.centre(0, 0, 0));
        asked("13", x -> x.corner(2, 1, 1));
        asked("16", x -> x.fails(4));
        asked("17", x -> x.tilt(1, 99));
        asked("18", x -> x.most(2));
        asked("19", x -> x.free());
        asked("21", x -> x.order(0));
        asked("22", x -> x.without(0));
        asked("23", x -> x.spot(444, 999, 1));
        asked("24", x -> x.bumps(1, 30));
        asked("25", x -> x.chance(1, 20, 30, 1));
        asked("28, who is left", x -> x.tells(1, 1));
        asked("28, KINDS", x -> x.tells(0, 10));
        asked("33", x -> x.count(5));
    }
}
