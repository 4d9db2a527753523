/** Terms 1: a BOX that is GONE, one that didn't come and one that can't be, in every call that takes one. */
final class GoneTest {
    private static final int BAD = PileSteadier.BAD;

    private GoneTest() { }

    static void run() {
        goneIsBad();
        goneIsToldOf();
        neverCameIsBad();
        noneSuchIsBad();
        othersThatAreGone();
        goneIsNotThere();
        numbersStay();
    }

    /** Every call but of() by a box, each thing else as it should be; what each is due that hasn't the box. */
    private static void dueBad(String name, PileSteadier x, int box) {
        Check.due("4: kind, " + name, x.kind(box, 0, 0), BAD);
        Check.due("5: weigh, " + name, x.weigh(box, 1, 1), BAD);
        Check.due("5: weigh ahead of FULL, " + name, x.weigh(box, 65536, 65536), BAD);
        Check.due("6: taken, " + name, x.taken(box, 0), BAD);
        Check.due("6: taken ahead of -13, " + name, x.taken(box, 5), BAD);
        Check.due("7: off, " + name, x.off(box), BAD);
        Check.due("8: on, " + name, x.on(box, 0), BAD);
        Check.due("8: on it, " + name, x.on(box, 1), BAD);
        Check.due("9: contact, " + name, x.contact(box, 0), BAD);
        Check.due("9: contact with the floor, " + name, x.contact(box, -1), BAD);
        Check.due("10: load, " + name, x.load(box), BAD);
        Check.due("11: hands, " + name, x.hands(box, 0), BAD);
        Check.due("11: hands to the floor, " + name, x.hands(box, -1), BAD);
        for (int i = 0; i < 4; i++) Check.due("12: centre, " + name, x.centre(box, i / 2, i % 2), PileSteadier.NO);
        Check.due("13: corners, " + name, x.corner(box, -1, 0), BAD);
        Check.due("13: corner, " + name, x.corner(box, 0, 1), BAD);
        Check.due("13: corner ahead of -12, " + name, x.corner(box, 99, 1), BAD);
        Check.due("14: lies, " + name, x.lies(box), BAD);
        Check.due("20: way, " + name, x.way(box), BAD);
        Check.due("22: without, " + name, x.without(box), BAD);
    }

    /** A tower of three and one more beside it; the highest (2) and that one (3) are gone. */
    private static PileSteadier twoGone() {
        PileSteadier x = new PileSteadier();
        for (int i = 0; i < 3; i++) x.box(0, 0, 0, 221, 10);
        x.box(0, 4, 4, 111, 5);
        Check.due("7: off", x.off(2), 3);
        Check.due("7: off", x.off(3), 2);
        return x;
    }

    private static void goneIsBad() {
        PileSteadier x = twoGone();
        dueBad("gone", x, 2);
        dueBad("gone, the last", x, 3);
        Check.due("28: KINDS of one that is gone", x.tells(0, 12), BAD);
        Check.due("28: KINDS of the last that is gone", x.tells(0, 13), BAD);
        Check.due("28: KINDS of one that is there", x.tells(0, 11), 63);
    }

    private static void goneIsToldOf() {
        PileSteadier x = twoGone();
        int[] due = {0, 0, 4, 4, 0, 111, 5, 1, 600, 60};
        for (int what = 0; what < 10; what++) Check.due("3: of one that is gone, " + what, x.of(3, what), due[what]);
        Check.due("3: Z of one that is gone", x.of(2, 4), 2);
        Check.due("3: what of one that is gone", x.of(3, 10), BAD);
        Check.due("3: one that is there", x.of(1, 7), 0);
    }

    private static void neverCameIsBad() {
        PileSteadier x = twoGone();
        for (int box = 4; box < 7; box++) {
            dueBad("didn't come: " + box, x, box);
            Check.due("3: of one that didn't come", x.of(box, 7), BAD);
            Check.due("28: KINDS of one that didn't come", x.tells(0, 10 + box), BAD);
        }
        PileSteadier empty = new PileSteadier();
        dueBad("nobody came", empty, 0);
        Check.due("3: of 0, nobody came", empty.of(0, 0), BAD);
        Check.due("28: KINDS of 0, nobody came", empty.tells(0, 10), BAD);
    }

    private static void noneSuchIsBad() {
        for (int box : Edges.outside(0, 6)) {
            PileSteadier x = new PileSteadier();
            for (int i = 0; i < 7; i++) x.box(0, i, 0, 111, 1);
            // Where a call takes NONE or a box, the box is asked first.
            dueBad("none such: " + box, x, box);
            Check.due("3: none such: " + box, x.of(box, 0), BAD);
            Check.due("33: all are there", x.count(1), 7);
        }
    }

    private static void othersThatAreGone() {
        PileSteadier x = twoGone();
        Check.due("9: other is gone", x.contact(0, 2), BAD);
        Check.due("11: other is gone", x.hands(1, 2), BAD);
        Check.due("9: other didn't come", x.contact(0, 4), BAD);
        Check.due("11: other didn't come", x.hands(0, 4), BAD);
        for (int other : Edges.outside(-1, 6)) {
            Check.due("9: other " + other, x.contact(0, other), BAD);
            Check.due("11: other " + other, x.hands(0, other), BAD);
        }
    }

    /** It bears nobody, is in nobody's way, is in no order and weighs nothing. */
    private static void goneIsNotThere() {
        PileSteadier x = twoGone();
        Check.due("8: nothing rests on 1", x.on(1, 1), 0);
        Check.due("10: no load by it", x.load(1), 0);
        Check.due("15: who is there", x.stands(4), 3);
        Check.due("15: who stands", x.stands(3), 3);
        Check.due("19: free", x.free(), 2);
        Check.due("20: in nobody's way", x.way(0), 0);
        Check.due("21: order of two", x.order(-1), 1);
        Check.due("21: k of two", x.order(2), -12);
        Check.due("33: came", x.count(0), 4);
        Check.due("33: are there", x.count(1), 2);
        Check.due("33: weight", x.count(3), 20);
        Check.due("33: twos", x.count(4), 1);
        Check.due("33: to the floor", x.count(5), 20);
        Check.due("2: in its place", x.box(0, 0, 0, 221, 10), 4);
        Check.due("2: as high as it was", x.of(4, 4), 2);
        Check.due("2: where it stood on the floor", x.box(0, 4, 4, 111, 1), 5);
        Check.due("2: on the floor", x.of(5, 4), 0);
    }

    private static void numbersStay() {
        PileSteadier x = new PileSteadier();
        for (int i = 0; i < 7; i++) {
            Check.due("2: numbered as they come", x.box(0, 0, 0, 111, 1), i);
            Check.due("7: nobody is left", x.off(i), 0);
        }
        Check.due("2: seven came, all are gone", x.box(0, 0, 0, 111, 1), PileSteadier.FULL);
        Check.due("33: came", x.count(0), 7);
        Check.due("33: are there", x.count(1), 0);
        Check.due("21: none there", x.order(-1), 1);
        Check.due("21: none there, k", x.order(0), -12);
        Check.due("18: nobody there", x.most(0), 99);
        Check.due("29: nobody there", x.film(0), 0);
        Check.due("16: nobody there", x.fails(0), -1);
    }
}
