/** Terms 3, promises 28 to 33: sheets missing, of the other sort, of 0 and 40 items; places just outside; images. */
final class ToldEdgesTest {
    private static final int NONE = PileSteadier.NONE, BAD = PileSteadier.BAD, STATE = PileSteadier.STATE;
    private static final int LEAST = Edges.LEAST, GREATEST = Edges.GREATEST;

    private ToldEdgesTest() { }

    static void run() {
        tellsWhats();
        tellsSheets();
        tellsOfNoItems();
        tellsOfFortyItems();
        tellsOddItems();
        tellsTheLastPlace();
        kindsOfSeven();
        kindsByLoads();
        filmSheets();
        filmSizes();
        comesNumbers();
        comesOfOtherSorts();
        comesUpToTheEnd();
        comesFromOutside();
        comesOfFortyItems();
        comesLeavesOut();
        comesOfNone();
        imageBeforeThereIsOne();
        imagesOfNoneAndSeven();
        imageKeepsAllButSheetsAndTape();
        nothingIsLeftOfWhatIsLaidBack();
        nothingIsLeftOfAThought();
        countWhats();
    }

    private static void dueTold(String name, PileSteadier x, int sheet, int place, int left) {
        Check.due("28: " + name, x.tells(sheet, 0), place);
        Check.due("28: who is left, " + name, x.tells(sheet, 1), left);
    }

    private static void tellsWhats() {
        PileSteadier x = Scenes.tower();
        x.sheet(0, 1, 1);
        int[] wrong = {-1, -2, 2, 3, 8, 9, 17, 18, 32, 33, 42, 256, 257, 266, LEAST, LEAST + 1, LEAST + 10, GREATEST};
        for (int what : wrong) {
            Check.due("28: what " + what, x.tells(0, what), BAD);
            Check.due("28: what ahead of -11, " + what, x.tells(1, what), BAD);
            Check.due("28: what and SHEET, " + what, x.tells(4, what), BAD);
        }
        for (int box = 0; box < 7; box++) {
            Check.due("28: KINDS of BOX " + box, x.tells(0, 10 + box), box < 3 ? 53 : box == 3 ? 63 : BAD);
        }
    }

    private static void tellsSheets() {
        PileSteadier x = Scenes.tower();
        for (int sheet : Edges.outside(0, 3)) {
            Check.due("28: SHEET " + sheet, x.tells(sheet, 0), BAD);
            Check.due("28: who is left, SHEET " + sheet, x.tells(sheet, 1), BAD);
            Check.due("28: KINDS, whatever the SHEET", x.tells(sheet, 13), 63);
        }
        for (int sheet = 0; sheet < 4; sheet++) {
            dueTold("missing", x, sheet, -11, -11);
            Check.due("28: KINDS, the SHEET is missing", x.tells(sheet, 13), 63);
            Check.due("28: a BOX that is none there", x.tells(sheet, 14), BAD);
            x.sheet(sheet, sheet % 2, 1);
            dueTold("missing no more", x, sheet, 0, 15);
        }
    }

    private static void tellsOfNoItems() {
        PileSteadier x = Scenes.tower(), empty = new PileSteadier();
        for (int sort = 0; sort < 2; sort++) {
            x.sheet(0, sort, 0);
            dueTold("no items", x, 0, NONE, 15);
            empty.sheet(0, sort, 0);
            dueTold("no items, nobody there", empty, 0, NONE, 0);
            empty.sheet(0, sort, 1);
            dueTold("one item, nobody there", empty, 0, 0, 0);
        }
    }

    private static void tellsOfFortyItems() {
        for (int sort = 0; sort < 2; sort++) {
            PileSteadier x = new PileSteadier();
            for (int i = 0; i < 7; i++) x.box(0, 0, 0, 111, 1);
            x.sheet(3, sort, 40);
            dueTold("forty of 0", x, 3, 0, 127);
            for (int i = 0; i < 7; i++) {
                x.put(3, i, 6 - i);
                // Behind 1 stands a 0 at once, which is right, too.
                int right = i < 5 ? i + 1 : 7;
                dueTold("forty, right up to " + i, x, 3, right, (1 << 7 - right) - 1);
            }
            Check.due("15: truly all are there", x.stands(4), 127);
        }
    }

    private static void tellsOddItems() {
        int[] odd = {7, 8, 31, 32, 35, 64, 131, 255, 256 + 7, -1, -2, -4, -29, -32, LEAST, LEAST + 3, GREATEST};
        for (int v : odd) {
            PileSteadier x = Scenes.tower();
            Scenes.write(x, 0, 1, 3, v, 2);
            dueTold("none such, " + v, x, 0, 1, 7);
            Scenes.write(x, 0, 1, v);
            dueTold("none such first, " + v, x, 0, 0, 15);
        }
        PileSteadier x = Scenes.tower();
        Scenes.write(x, 0, 0, 256 + 3, -254, 1, LEAST);
        dueTold("by the lowest 8 bits", x, 0, NONE, 0);
        Scenes.write(x, 0, 0, 3, -1);
        dueTold("255", x, 0, 1, 7);
        x.off(3);
        Scenes.write(x, 1, 1, 3, 2);
        dueTold("one that is gone", x, 1, 0, 7);
        Scenes.write(x, 1, 1, 2, 4);
        dueTold("one that didn't come", x, 1, 1, 3);
    }

    private static void tellsTheLastPlace() {
        PileSteadier x = new PileSteadier();
        for (int i = 0; i < 7; i++) x.box(0, 0, 0, 111, 1);
        Scenes.write(x, 0, 1, 6, 5, 4, 3, 2, 1, 0);
        dueTold("all seven", x, 0, NONE, 0);
        x.put(0, 6, 1);
        dueTold("the last is told twice", x, 0, 6, 1);
        x.put(0, 6, 7);
        dueTold("the last is none such", x, 0, 6, 1);
    }

    private static void kindsOfSeven() {
        PileSteadier x = new PileSteadier();
        for (int i = 0; i < 7; i++) x.box(0, i, i, 111, 1);
        for (int box = 0; box < 7; box++) Check.due("28: KINDS of BOX " + box, x.tells(0, 10 + box), 63);
        Check.due("28: there is no eighth", x.tells(0, 17), BAD);
    }

    /** FIGURE 1: GLASS bears 10, FRAGILE 20, DRUM 300, CRATE 700, HEAVY and SAFE 1400. */
    private static void kindsByLoads() {
        int[][] due = {{4, 63}, {10, 63}, {11, 55}, {20, 55}, {21, 53}, {300, 53}, {301, 37}, {700, 37}, {701, 36},
            {1400, 36}, {1401, 0}};
        PileSteadier x = new PileSteadier();
        x.box(0, 0, 0, 441, 1);
        x.kind(0, 4, 1);
        for (int i = 0; i < 4; i++) x.box(0, i % 2 * 2, i / 2 * 2, 221, 1);
        for (int[] d : due) {
            x.weigh(1, 1, Math.min(999, d[0] - 3));
            x.weigh(2, 1, 1 + Math.max(0, d[0] - 3 - 999));
            Check.due("10: LOAD", x.load(0), d[0]);
            Check.due("28: KINDS by LOAD " + d[0], x.tells(0, 10), d[1]);
            Check.due("28: truly it is a DRUM", x.of(0, 0), 4);
        }
        Check.due("28: of another, none helps", x.tells(0, 11), 0);
    }

    private static void filmSheets() {
        PileSteadier x = Scenes.tower();
        for (int sheet : Edges.outside(0, 3)) Check.due("29: SHEET " + sheet, x.film(sheet), BAD);
        for (int sheet = 0; sheet < 4; sheet++) {
            Check.due("29: a missing one becomes it", x.film(sheet), 4);
            dueTold("29: it is told right", x, sheet, NONE, 0);
        }
        PileSteadier none = Scenes.tipping();
        none.box(0, 0, 0, 111, 30);
        Check.due("29: none, of a missing one", none.film(0), NONE);
        Check.due("29: it stays missing", none.put(0, 0, 0), -11);
        none.sheet(0, 1, 40);
        Check.due("29: none, of forty", none.film(0), NONE);
        Check.due("29: it stays of forty ints", none.comes(0, 1, 35, 1), 0);
    }

    /** A sheet's size and sort: the last item is there, one behind it isn't. */
    private static void dueRow(String name, PileSteadier x, int sheet, int sort, int size) {
        Check.due(name + ", one behind the last", x.copy(sheet, 0, sheet, 0, size + 1), -12);
        Check.due(name + ", up to the last", x.copy(sheet, 0, sheet, 0, size), size);
        Check.due(name + ", as of the other sort", x.comes(sheet, 1 - sort, 0, 0), -13);
        Check.due(name + ", as of its sort", x.comes(sheet, sort, 0, 0), 0);
    }

    private static void filmSizes() {
        PileSteadier x = new PileSteadier();
        x.sheet(0, 1, 40);
        Check.due("29: nobody there", x.film(0), 0);
        dueRow("29: nobody there", x, 0, 0, 0);
        for (int i = 0; i < 7; i++) x.box(0, 0, 0, 111, 1);
        Check.due("29: seven, over none", x.film(0), 7);
        dueRow("29: seven, over none", x, 0, 0, 7);
        x.sheet(1, 1, 40);
        Check.due("29: seven, over forty ints", x.film(1), 7);
        dueRow("29: seven, over forty ints", x, 1, 0, 7);
        x.off(6);
        Check.due("29: six", x.film(1), 6);
        dueRow("29: six", x, 1, 0, 6);
        dueTold("29: six", x, 1, NONE, 0);
        dueTold("29: the older one", x, 0, 0, 63);
    }

    private static PileSteadier withRow(int size) {
        PileSteadier x = new PileSteadier();
        x.sheet(0, 1, size);
        for (int i = 0; i + 5 <= size; i += 5) {
            x.put(0, i + 1, i / 5);
            x.put(0, i + 3, 111);
            x.put(0, i + 4, i + 1);
        }
        return x;
    }

    private static void comesNumbers() {
        PileSteadier x = withRow(40);
        for (int sheet : Edges.outside(0, 3)) Check.due("30: SHEET " + sheet, x.comes(sheet, 1, 0, 1), BAD);
        for (int sort : Edges.outside(0, 1)) {
            Check.due("30: sort " + sort, x.comes(0, sort, 0, 1), BAD);
            Check.due("30: sort ahead of -11, " + sort, x.comes(1, sort, 0, 1), BAD);
        }
        for (int n : Edges.outside(0, 7)) {
            Check.due("30: n " + n, x.comes(0, 1, 0, n), BAD);
            Check.due("30: n ahead of -13, " + n, x.comes(0, 0, 0, n), BAD);
            Check.due("30: n ahead of -11, " + n, x.comes(1, 1, 0, n), BAD);
            Check.due("30: n ahead of -12, " + n, x.comes(0, 1, -1, n), BAD);
        }
        Check.due("30: nobody came", x.count(0), 0);
        Check.due("30: seven", x.comes(0, 1, 0, 7), 7);
        for (int b = 0; b < 7; b++) {
            Check.due("30: X", x.of(b, 2), b);
            Check.due("30: WEIGHT", x.of(b, 6), 5 * b + 1);
        }
    }

    private static void comesOfOtherSorts() {
        PileSteadier x = withRow(5);
        Check.due("30: ints as bytes", x.comes(0, 0, 0, 1), -13);
        Check.due("30: -13 ahead of -12", x.comes(0, 0, -1, 1), -13);
        x.sheet(1, 0, 5);
        Check.due("30: bytes as ints", x.comes(1, 1, 0, 1), -13);
        Check.due("30: bytes as bytes, left out", x.comes(1, 0, 0, 1), 0);
        for (int sheet = 2; sheet < 4; sheet++) {
            for (int sort = 0; sort < 2; sort++) {
                Check.due("30: missing", x.comes(sheet, sort, 0, 1), -11);
                Check.due("30: -11 ahead of -12", x.comes(sheet, sort, -1, 7), -11);
            }
        }
        x.sheet(0, -1, 0);
        Check.due("30: missing again", x.comes(0, 1, 0, 1), -11);
        Check.due("30: nobody came", x.count(0), 0);
    }

    /** Of rows of 4 to 11 numbers: as many come as have all their five. */
    private static void comesUpToTheEnd() {
        for (int size = 0; size <= 11; size++) {
            for (int n = 1; n <= 3; n++) {
                PileSteadier x = withRow(size);
                int whole = Math.min(n, size / 5);
                Check.due("30: " + n + " of " + size, x.comes(0, 1, 0, n), whole < n ? -12 : n);
                Check.due("30: what stood ahead came, " + n + " of " + size, x.count(0), whole);
            }
        }
    }

    private static void comesFromOutside() {
        PileSteadier x = withRow(10);
        int[] wrong = {-1, -2, -4, -5, -6, -10, -35, 6, 7, 9, 10, 11, 40, 256, 65536, LEAST, LEAST + 1, LEAST + 5,
            GREATEST, GREATEST - 1, GREATEST - 3, GREATEST - 4, GREATEST - 5, GREATEST - 34, -(1 << 30), 1 << 30};
        for (int from : wrong) {
            for (int n = 1; n <= 7; n += 3) Check.due("30: from " + from, x.comes(0, 1, from, n), -12);
        }
        Check.due("30: nobody came", x.count(0), 0);
        x.sheet(1, 0, 10);
        for (int from : wrong) Check.due("30: of bytes, from " + from, x.comes(1, 0, from, 1), -12);
        Check.due("30: the last from", x.comes(0, 1, 5, 1), 1);
        Check.due("30: the last from came", x.of(0, 6), 6);
        Check.due("30: the second is outside", x.comes(0, 1, 5, 2), -12);
        Check.due("30: the first came", x.count(0), 2);
    }

    private static void comesOfFortyItems() {
        Check.due("30: the last seven of forty", withRow(40).comes(0, 1, 5, 7), 7);
        PileSteadier x = withRow(40);
        Check.due("30: the eighth alone", x.comes(0, 1, 35, 1), 1);
        Check.due("30: its X", x.of(0, 2), 7);
        Check.due("30: one beyond", x.comes(0, 1, 36, 1), -12);
        Check.due("30: seven from 10, six of them came", x.comes(0, 1, 10, 7), -12);
        Check.due("30: what stood ahead came", x.count(0), 7);
        Check.due("30: full, all are left out", x.comes(0, 1, 0, 7), 0);
        Check.due("30: full, one is outside", x.comes(0, 1, 40, 1), -12);
        PileSteadier none = new PileSteadier();
        none.sheet(0, 1, 0);
        Check.due("30: of no items", none.comes(0, 1, 0, 1), -12);
        Check.due("30: of no items, none", none.comes(0, 1, 0, 0), 0);
    }

    /** BAD, STATE and FULL ones are left out; those behind them come. */
    private static void comesLeavesOut() {
        PileSteadier x = new PileSteadier();
        Scenes.write(x, 0, 1, 0, 0, 0, 444, 1, 6, 0, 0, 111, 1, 0, 0, 0, 444, 1, 0, 0, 0, 444, 1, 0, 0, 0, 111, 1,
            0, 7, 7, 111, 999, 0, 7, 7, 111, 1000);
        Check.due("30: three are left out", x.comes(0, 1, 0, 7), 4);
        Check.due("30: four came", x.count(0), 4);
        Check.due("30: the last of them", x.of(3, 6), 999);
        Check.due("30: three more have room", x.comes(0, 1, 25, 1), 1);
        Check.due("30: two more have room", x.comes(0, 1, 25, 1), 1);
        Check.due("30: one more has room", x.comes(0, 1, 25, 1), 1);
        Check.due("30: none more has room", x.comes(0, 1, 25, 1), 0);
        Check.due("30: seven came", x.count(0), 7);
        PileSteadier far = new PileSteadier();
        Scenes.write(far, 0, 1, LEAST, 0, 0, 111, 1, 0, GREATEST, 0, 411, 1, 0, 0, LEAST, 141, 1, 0, 0, 0, GREATEST, 1,
            0, 0, 0, 111, LEAST, 0, 0, 0, 111, 1);
        Check.due("30: far numbers are left out", far.comes(0, 1, 0, 6), 1);
    }

    private static void comesOfNone() {
        PileSteadier x = withRow(5);
        Check.due("30: n 0", x.comes(0, 1, 0, 0), 0);
        Check.due("30: n 0, of another sort", x.comes(0, 0, 0, 0), -13);
        Check.due("30: n 0, missing", x.comes(1, 0, 0, 0), -11);
        Check.due("30: nobody came", x.count(0), 0);
    }

    private static void imageBeforeThereIsOne() {
        PileSteadier x = Scenes.tower();
        Check.due("32: none yet", x.back(), STATE);
        Check.due("32: none yet, again", x.back(), STATE);
        Check.due("32: all as it was", x.stands(4), 15);
        Check.due("31: now there is one", x.image(), 4);
        Check.due("32: laid back", x.back(), 4);
        PileSteadier other = new PileSteadier();
        Check.due("32: of another object there is none", other.back(), STATE);
    }

    private static void imagesOfNoneAndSeven() {
        PileSteadier x = new PileSteadier();
        Check.due("31: of none", x.image(), 0);
        for (int i = 0; i < 7; i++) x.box(0, 0, 0, 111, 1);
        Check.due("32: to none", x.back(), 0);
        Check.due("33: nobody came", x.count(0), 0);
        Check.due("3: none of them", x.of(0, 7), BAD);
        for (int i = 0; i < 7; i++) Check.due("2: seven have room again", x.box(1, i, 1, 111, 2), i);
        Check.due("31: of seven", x.image(), 7);
        x.off(6);
        x.off(5);
        Check.due("32: to seven", x.back(), 7);
        Check.due("15: all seven are there", x.stands(4), 127);
        Check.due("2: seven came", x.box(0, 0, 0, 111, 1), PileSteadier.FULL);
        x.off(6);
        Check.due("31: of seven, one is gone", x.image(), 7);
        x.off(5);
        Check.due("32: to seven, one is gone", x.back(), 7);
        Check.due("15: that one is gone", x.stands(4), 63);
        Check.due("3: it is told of", x.of(6, 7), 1);
    }

    private static void imageKeepsAllButSheetsAndTape() {
        PileSteadier x = Scenes.tower();
        x.sheet(0, 1, 3);
        Scenes.feed(x, "off");
        x.image();
        x.sheet(0, 0, 5);
        x.sheet(1, 1, 1);
        Scenes.feed(x, " 3");
        x.kind(3, 5, 9);
        x.weigh(0, 1, 999);
        Check.due("32: laid back", x.back(), 4);
        Check.due("3: KIND", x.of(3, 0), 0);
        Check.due("3: FIGURE", x.of(3, 1), 0);
        Check.due("3: WEIGHT", x.of(0, 6), 10);
        Check.due("32: the sheet stays", x.copy(0, 0, 0, 0, 5), 5);
        Check.due("32: the other sheet stays", x.put(1, 0, 1), 1);
        Check.due("32: the tape stays", x.count(2), 5);
        Check.due("27: it is read", x.text(), 1);
        Check.due("32: once more", x.back(), 4);
        Check.due("32: it is there again", x.stands(4), 15);
        Check.due("32: the tape stays empty", x.count(2), 0);
    }

    /** A number that is given anew has nothing of the one that had it ahead of back(). */
    private static void nothingIsLeftOfWhatIsLaidBack() {
        PileSteadier x = new PileSteadier();
        x.box(0, 0, 0, 221, 9);
        x.image();
        x.box(5, 0, 0, 211, 7);
        x.kind(1, 4, 9);
        x.box(0, 0, 0, 111, 6);
        Check.due("10: LOAD", x.load(0), 13);
        x.back();
        Check.due("10: none any more", x.load(0), 0);
        Check.due("2: the next number", x.box(0, 3, 3, 111, 5), 1);
        Check.due("2: FIGURE 0 at first", x.of(1, 1), 0);
        Check.due("2: its KIND", x.of(1, 0), 0);
        Check.due("8: on THE FLOOR", x.on(1, 0), 0);
        Check.due("9: no CONTACT", x.contact(1, 0), 0);
        Check.due("11: nothing handed down", x.hands(1, 0), 0);
        Check.due("11: all to THE FLOOR", x.hands(1, -1), 5);
        Check.due("10: no LOAD", x.load(1), 0);
        Check.due("2: and the next", x.box(0, 5, 5, 111, 4), 2);
        Check.due("11: nothing to 1", x.hands(2, 1), 0);
        Check.due("8: nothing on 1", x.on(1, 1), 0);
        Check.due("33: twos", x.count(4), 0);
    }

    /** spot() tries the next number everywhere; nothing of that is told when it truly comes. */
    private static void nothingIsLeftOfAThought() {
        PileSteadier x = new PileSteadier();
        x.box(0, 7, 7, 111, 1);
        x.box(0, 6, 7, 111, 1);
        Check.due("23: everywhere", x.spot(111, 99, 1), 64);
        Check.due("10: no LOAD", x.load(0), 0);
        Check.due("2: beside them", x.box(0, 0, 0, 111, 3), 2);
        for (int a = 0; a < 2; a++) {
            Check.due("11: nothing handed down", x.hands(2, a), 0);
            Check.due("9: no CONTACT", x.contact(2, a), 0);
            Check.due("10: no LOAD", x.load(a), 0);
        }
        Check.due("28: KINDS", x.tells(0, 12), 63);
        Check.due("3: truly a CRATE", x.of(2, 0), 0);
        Check.due("22: without", x.without(0), 0);
        Check.due("15: it is there", x.stands(4), 7);
    }

    private static void countWhats() {
        PileSteadier x = Scenes.bridge();
        for (int what : Edges.outside(0, 5)) Check.due("33: what " + what, x.count(what), BAD);
        int[] due = {3, 3, 0, 28, 2, 28};
        for (int what = 0; what < 6; what++) Check.due("33: what " + what, x.count(what), due[what]);
        PileSteadier plank = new PileSteadier();
        for (int i = 0; i < 6; i++) plank.box(0, i % 3, i / 3, 111, 1);
        plank.box(0, 0, 0, 321, 1);
        Check.due("33: six twos of seven", plank.count(4), 6);
        Check.due("33: 1 in all is handed on", plank.count(5), 7);
    }
}
