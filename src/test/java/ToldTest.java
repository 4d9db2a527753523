/** Promises 28 to 33: told orders, films, boxes from sheets, images, counts. */
final class ToldTest {
    private static final int NONE = PileSteadier.NONE, BAD = PileSteadier.BAD;

    private ToldTest() { }

    static void run() {
        judged();
        judgedOddly();
        tellsIsRefused();
        kindsOfABox();
        films();
        comes();
        comesOutside();
        comesIsRefused();
        comesOfBytes();
        images();
        counts();
    }

    private static void dueTold(String name, PileSteadier x, int place, int left) {
        Check.due("28: " + name, x.tells(0, 0), place);
        Check.due("28: who is left, " + name, x.tells(0, 1), left);
    }

    private static void judged() {
        PileSteadier x = Scenes.tower();
        Scenes.write(x, 0, 1, 3, 2, 1, 0);
        dueTold("all", x, NONE, 0);
        Scenes.write(x, 0, 0, 3, 2);
        dueTold("some, by bytes", x, NONE, 3);
        Scenes.write(x, 0, 1, 3, 1, 2, 0);
        dueTold("one isn't free", x, 1, 7);
        Scenes.write(x, 0, 1, 2, 3);
        dueTold("the first isn't", x, 0, 15);
        Scenes.write(x, 0, 1);
        dueTold("nothing", x, NONE, 15);
        Check.due("28: it is but told", x.stands(4), 15);
        PileSteadier row = Scenes.row();
        Scenes.write(row, 0, 1, 2, 0, 1);
        dueTold("in the way", row, 1, 3);
    }

    private static void judgedOddly() {
        PileSteadier x = Scenes.tower();
        Scenes.write(x, 0, 1, 3, 3);
        dueTold("twice", x, 1, 7);
        for (int odd : new int[] {4, 7, 32, 35, -1, -29, Integer.MAX_VALUE, Integer.MIN_VALUE}) {
            Scenes.write(x, 0, 1, 3, odd, 2);
            dueTold("none such: " + odd, x, 1, 7);
        }
        x.off(3);
        Scenes.write(x, 0, 1, 3);
        dueTold("gone", x, 0, 7);
        Scenes.write(x, 0, 1, 2, 1, 0, 0);
        dueTold("behind the last", x, 3, 0);
        PileSteadier held = Scenes.tipping();
        held.box(0, 0, 0, 111, 30);
        Scenes.write(held, 0, 1, 2, 1, 0);
        dueTold("the one that tips without it", held, 0, 7);
    }

    private static void tellsIsRefused() {
        PileSteadier x = Scenes.tower();
        for (int what = 0; what < 2; what++) {
            Check.due("28: sheet", x.tells(4, what), BAD);
            Check.due("28: sheet below", x.tells(-1, what), BAD);
            Check.due("28: missing", x.tells(3, what), -11);
        }
        for (int what : new int[] {-1, 2, 9, 14, 17, Integer.MAX_VALUE, Integer.MIN_VALUE}) {
            Check.due("28: what " + what, x.tells(0, what), BAD);
        }
        Check.due("28: no sheet asked", x.tells(9, 13), 63);
        x.off(3);
        Check.due("28: kinds of one that is gone", x.tells(0, 13), BAD);
    }

    private static void kindsOfABox() {
        PileSteadier x = Scenes.tower();
        Check.due("28: figure 0, a load", x.tells(0, 10), 1 + 4 + 16 + 32);
        x.kind(0, 0, 2);
        Check.due("28: figure 2, 30 on it", x.tells(0, 10), 1 + 2 + 4 + 16 + 32 - 0);
        x.weigh(3, 20, 1);
        Check.due("28: figure 2, 40 on it", x.tells(0, 10), 1 + 2 + 4 + 16 + 32);
        x.weigh(3, 21, 1);
        Check.due("28: figure 2, 41 on it", x.tells(0, 10), 1 + 4 + 16 + 32);
        Check.due("28: it stays what it is", x.of(0, 0), 0);
        PileSteadier edge = new PileSteadier();
        edge.box(0, 0, 0, 111, 1);
        edge.box(0, 0, 0, 211, 1);
        edge.kind(1, 2, 1);
        Check.due("28: a HEAVY one tips", edge.tells(0, 11), 63 - 4);
        Check.due("28: another one's kind doesn't help", edge.tells(0, 10), 0);
    }

    private static void films() {
        PileSteadier x = Scenes.tower();
        Check.due("29: how many", x.film(2), 4);
        Check.due("29: it is told right", x.tells(2, 0), NONE);
        Check.due("29: all are taken", x.tells(2, 1), 0);
        Check.due("29: it has no fifth", x.put(2, 4, 0), -12);
        Check.due("29: nobody went", x.stands(4), 15);
        Scenes.write(x, 1, 0, 9, 9, 9, 9);
        Check.due("29: of bytes", x.copy(2, 0, 1, 0, 4), 4);
        Scenes.write(x, 1, 1, 9, 9, 9, 9);
        Check.due("29: not of ints", x.copy(2, 0, 1, 0, 4), -13);
        Check.due("29: over another", x.film(1), 4);
        Check.due("29: sheet", x.film(4), BAD);
        Check.due("29: sheet below", x.film(-1), BAD);
        Check.due("29: empty", Scenes.empty().film(0), 0);
        PileSteadier held = Scenes.tipping();
        held.box(0, 0, 0, 111, 30);
        Scenes.write(held, 0, 1, 5);
        Check.due("29: no order", held.film(0), NONE);
        Check.due("29: it stays", held.put(0, 0, 7), 1);
        Check.due("29: it stays of ints", held.comes(0, 1, 0, 0), 0);
        Check.due("29: bad, no order", held.film(4), BAD);
    }

    private static void comes() {
        PileSteadier x = new PileSteadier();
        Scenes.write(x, 0, 1, 77, 0, 1, 2, 211, 30, 3, 5, 5, 111, 9);
        Check.due("30: two", x.comes(0, 1, 1, 2), 2);
        int[] due = {3, 0, 5, 5, 0, 111, 9};
        for (int what = 0; what < due.length; what++) Check.due("30: of, " + what, x.of(1, what), due[what]);
        Check.due("30: X of the first", x.of(0, 2), 1);
        Check.due("30: Y of the first", x.of(0, 3), 2);
        Check.due("30: weight of the first", x.of(0, 6), 30);
        Check.due("30: none", x.comes(0, 1, 1, 0), 0);
        Check.due("30: the second alone", x.comes(0, 1, 6, 1), 1);
        Check.due("30: left out, then one", x.comes(0, 1, 0, 2), 0);
        x.put(0, 3, 9);
        Check.due("30: one is left out", x.comes(0, 1, 1, 2), 1);
        Check.due("30: four came", x.count(0), 4);
        Scenes.write(x, 0, 1, 0, 0, 0, 111, 1, 0, 0, 1, 111, 1, 0, 0, 2, 111, 1, 0, 0, 3, 111, 1);
        Check.due("30: as many as have room", x.comes(0, 1, 0, 4), 3);
    }

    private static void comesOutside() {
        PileSteadier x = new PileSteadier();
        Scenes.write(x, 0, 1, 0, 0, 0, 111, 1, 0, 0, 1, 111, 1, 0, 0, 2, 111);
        Check.due("30: the third is cut off", x.comes(0, 1, 0, 3), -12);
        Check.due("30: what stood ahead came", x.count(0), 2);
        Check.due("30: from below", x.comes(0, 1, -1, 1), -12);
        Check.due("30: from below, five", x.comes(0, 1, -5, 2), -12);
        Check.due("30: from beyond", x.comes(0, 1, 14, 1), -12);
        Check.due("30: greatest from", x.comes(0, 1, Integer.MAX_VALUE, 2), -12);
        Check.due("30: least from", x.comes(0, 1, Integer.MIN_VALUE, 2), -12);
        Check.due("30: greatest from, all", x.comes(0, 1, Integer.MAX_VALUE - 4, 7), -12);
        Check.due("30: nothing outside came", x.count(0), 2);
        Check.due("30: none, from beyond", x.comes(0, 1, 99, 0), 0);
        Scenes.write(x, 0, 1);
        Check.due("30: of no numbers", x.comes(0, 1, 0, 1), -12);
    }

    private static void comesIsRefused() {
        PileSteadier x = new PileSteadier();
        Scenes.write(x, 0, 1, 0, 0, 0, 111, 1);
        int[][] bad = {{-1, 1, 0, 1}, {4, 1, 0, 1}, {0, -1, 0, 1}, {0, 2, 0, 1}, {0, 1, 0, -1}, {0, 1, 0, 8},
            {1, 2, 0, 1}};
        for (int[] b : bad) Check.due("30: bad", x.comes(b[0], b[1], b[2], b[3]), BAD);
        Check.due("30: another sort", x.comes(0, 0, 0, 1), -13);
        Check.due("30: another sort, none asked", x.comes(0, 0, 9, 0), -13);
        Check.due("30: missing", x.comes(1, 1, 0, 1), -11);
        Check.due("30: missing, bytes", x.comes(1, 0, 0, 0), -11);
        Check.due("30: nobody came", x.count(0), 0);
    }

    private static void comesOfBytes() {
        PileSteadier x = new PileSteadier();
        Scenes.write(x, 0, 0, 256, 1, 1, 222, 255);
        Check.due("30: by bytes", x.comes(0, 0, 0, 1), 1);
        Check.due("30: size of a byte", x.of(0, 5), 222);
        Check.due("30: weight of a byte", x.of(0, 6), 255);
        Check.due("30: bytes for ints", x.comes(0, 1, 0, 1), -13);
    }

    private static void images() {
        PileSteadier x = Scenes.tower();
        Check.due("32: none", x.back(), PileSteadier.STATE);
        x.kind(3, 4, 4);
        Check.due("31: how many", x.image(), 4);
        x.off(3);
        x.kind(0, 5, 5);
        x.weigh(1, 9, 9);
        x.box(0, 4, 4, 111, 1);
        x.box(0, 5, 5, 111, 1);
        Scenes.feed(x, "off 0");
        Scenes.write(x, 1, 1, 42);
        Check.due("32: back", x.back(), 4);
        Check.due("32: all are there", x.stands(4), 15);
        Check.due("32: kind", x.of(0, 0), 0);
        Check.due("32: weight", x.of(1, 6), 10);
        Check.due("32: figure", x.of(3, 1), 4);
        Check.due("32: load", x.load(0), 30);
        Check.due("32: the tape is none of it", x.count(2), 5);
        Check.due("32: sheets are none of it", x.put(1, 0, 1), 1);
        Check.due("32: those who came later didn't", x.of(4, 0), BAD);
        Check.due("32: the next number", x.box(0, 0, 0, 111, 1), 4);
        Check.due("32: its Z", x.of(4, 4), 4);
        Check.due("32: on the last", x.on(4, 0), 8);
        Check.due("32: back again", x.back(), 4);
        Check.due("32: nothing rests on it again", x.on(3, 1), 0);
        x.off(3);
        Check.due("31: anew, with one gone", x.image(), 4);
        x.off(2);
        x.back();
        Check.due("32: as the last image", x.stands(4), 7);
        PileSteadier empty = new PileSteadier();
        Check.due("31: of nothing", empty.image(), 0);
        empty.box(0, 0, 0, 111, 1);
        Check.due("32: to nothing", empty.back(), 0);
        Check.due("32: nothing is there", empty.stands(4), 0);
    }

    private static void dueCounts(String name, PileSteadier x, int[] due) {
        for (int what = 0; what < due.length; what++) Check.due("33: " + name + ", " + what, x.count(what), due[what]);
        Check.due("33: what", x.count(6), BAD);
        Check.due("33: what below", x.count(-1), BAD);
    }

    private static void counts() {
        dueCounts("empty", Scenes.empty(), new int[6]);
        PileSteadier x = Scenes.bridge();
        dueCounts("bridge", x, new int[] {3, 3, 0, 28, 2, 28});
        x.box(0, 2, 0, 112, 5);
        Scenes.feed(x, "abc");
        dueCounts("one more", x, new int[] {4, 4, 3, 33, 3, 33});
        x.off(3);
        x.off(2);
        dueCounts("two gone", x, new int[] {4, 2, 3, 20, 0, 20});
    }
}
