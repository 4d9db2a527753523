/** Terms 3, promises 26 and 27: the tape empty and full, faults at each place, numbers of 3 and 4 digits, each byte. */
final class TapeEdgesTest {
    private static final int BAD = PileSteadier.BAD, STATE = PileSteadier.STATE, FULL = PileSteadier.FULL;

    private TapeEdgesTest() { }

    static void run() {
        howManyAreFed();
        bytesOfEachPlace();
        upTo60();
        emptyAndFull();
        faultAtTheFirstByte();
        faultAtTheEnd();
        faultAtTheLastByte();
        eachPrefix();
        eachByteFirst();
        eachByteBehindAWord();
        eachByteBehindANumber();
        eachByteBehindASign();
        numbersOf4Digits();
        longNumbersAndWords();
        wordsAlmostRight();
        tooManyNumbers();
        tooFewNumbers();
        blanksAnywhere();
        refusedClauses();
        noneDoneByAFault();
        emptyBehindEach();
        mostClauses();
    }

    /** What a new object's text is answered. */
    private static void due(String text, int due) {
        PileSteadier x = new PileSteadier();
        Check.due("27: '" + text.replace('\n', '|') + "'", Scenes.say(x, text), due);
        Check.due("27: empty behind it", x.count(2), 0);
    }

    private static void dueFault(String text, int place) {
        due(text, -100 - place);
    }

    private static String blanks(int n) {
        return " ".repeat(n);
    }

    private static void howManyAreFed() {
        PileSteadier x = new PileSteadier();
        for (int n : Edges.outside(1, 5)) Check.due("26: n " + n, x.feed(n, 57, 57, 57, 57, 57), BAD);
        Check.due("26: refusals feed nothing", x.count(2), 0);
        for (int n = 1; n <= 5; n++) {
            Check.due("26: n " + n, x.feed(n, 57, 57, 57, 57, 57), n * (n + 1) / 2);
            Check.due("33: bytes", x.count(2), n * (n + 1) / 2);
        }
    }

    private static void bytesOfEachPlace() {
        for (int place = 0; place < 5; place++) {
            PileSteadier x = new PileSteadier();
            int[] v = new int[5];
            for (int wrong : Edges.outside(0, 255)) {
                v[place] = wrong;
                Check.due("26: not asked, " + wrong, x.feed(1, v[0], v[1], v[2], v[3], v[4]), BAD);
                Check.due("26: asked, " + wrong, x.feed(5, v[0], v[1], v[2], v[3], v[4]), BAD);
            }
            Check.due("26: refusals feed nothing", x.count(2), 0);
            v[place] = 255;
            Check.due("26: 255", x.feed(1, v[0], v[1], v[2], v[3], v[4]), 1);
            v[place] = 0;
            Check.due("26: 0", x.feed(5, v[0], v[1], v[2], v[3], v[4]), 6);
        }
    }

    private static PileSteadier fed(int bytes) {
        PileSteadier x = new PileSteadier();
        for (int i = 0; i < bytes; i++) x.feed(1, ' ', 0, 0, 0, 0);
        return x;
    }

    private static void upTo60() {
        for (int n = 1; n <= 5; n++) {
            Check.due("26: just 60, n " + n, fed(60 - n).feed(n, 57, 57, 57, 57, 57), 60);
            PileSteadier x = fed(61 - n);
            Check.due("26: one beyond 60, n " + n, x.feed(n, 57, 57, 57, 57, 57), FULL);
            Check.due("26: none of them came, n " + n, x.count(2), 61 - n);
            Check.due("26: BAD ahead of FULL, n " + n, x.feed(n, 57, 57, 57, 57, -1), BAD);
            PileSteadier full = fed(60);
            Check.due("26: none beyond 60, n " + n, full.feed(n, 57, 57, 57, 57, 57), FULL);
            Check.due("26: BAD n ahead of FULL", full.feed(6, 57, 57, 57, 57, 57), BAD);
            Check.due("26: still 60", full.count(2), 60);
        }
    }

    private static void emptyAndFull() {
        PileSteadier x = new PileSteadier();
        Check.due("27: empty", x.text(), -100);
        Check.due("27: empty again", x.text(), -100);
        PileSteadier full = fed(60);
        Check.due("27: 60 blanks", full.text(), -160);
        Check.due("27: empty then", full.count(2), 0);
        Check.due("27: and empty", full.text(), -100);
        Check.due("26: it has room again", full.feed(5, 'o', 'f', 'f', '0', ' '), 5);
        Check.due("27: as fed", full.text(), 0);
        due(blanks(56) + "off0", 0);
        due("off0" + blanks(56), 0);
    }

    private static void faultAtTheFirstByte() {
        for (String text : new String[] {"0", ";", ",", "x", "B", "-", "\0", "\t", "\r", "0off", ";off 0", "Box", "offs 0"}) {
            dueFault(text, 0);
        }
    }

    private static void faultAtTheEnd() {
        dueFault("", 0);
        dueFault(" ", 1);
        dueFault("off", 3);
        dueFault("off ", 4);
        dueFault("off 0;", 6);
        dueFault("off 0; ", 7);
        dueFault("box 0 0 0 111", 13);
        dueFault("weigh 0 1\n", 10);
        dueFault("off" + blanks(57), 60);
        dueFault("off 0" + blanks(54) + ";", 60);
        dueFault("off0;".repeat(12), 60);
    }

    private static void faultAtTheLastByte() {
        dueFault(blanks(59) + "x", 59);
        dueFault(blanks(59) + "0", 59);
        dueFault("off 0" + blanks(54) + "x", 59);
        dueFault("off 0" + blanks(54) + "0", 59);
        dueFault("off 0" + blanks(54) + "-", 59);
        dueFault("off 0;" + blanks(53) + ";", 59);
        dueFault("off" + blanks(56) + ";", 59);
    }

    private static void eachPrefix() {
        String text = "box 0 0 0 111 1;off 0";
        int[] faults = {0, 0, 0, 3, 4, 5, 6, 7, 8, 9, 10, 11, 12, 13, 14, -1, 16, 16, 16, 19, 20, -2};
        for (int size = 0; size <= text.length(); size++) {
            due(text.substring(0, size), faults[size] < 0 ? -faults[size] : -100 - faults[size]);
        }
    }

    private static boolean isBlank(int c) {
        return c == 32 || c == 10;
    }

    private static boolean isIn(int c, char least, char most) {
        return c >= least && c <= most;
    }

    private static void eachByteFirst() {
        for (int c = 0; c < 256; c++) dueFault("" + (char) c, isBlank(c) ? 1 : 0);
    }

    /** A letter makes the word another; a digit, as a blank, lets it be. */
    private static void eachByteBehindAWord() {
        for (int c = 0; c < 256; c++) {
            int place = isBlank(c) || isIn(c, '0', '9') ? -100 : isIn(c, 'a', 'z') ? 0 : 3;
            dueFault("off" + (char) c + "0", place);
        }
    }

    /** A digit makes the number longer; the sign is behind the end of a clause; all else can't stand there. */
    private static void eachByteBehindANumber() {
        for (int c = 0; c < 256; c++) {
            int place = isBlank(c) || isIn(c, '0', '9') ? -100 : c == ';' ? 6 : 5;
            dueFault("off 0" + (char) c, place);
        }
    }

    private static void eachByteBehindASign() {
        for (int c = 0; c < 256; c++) dueFault("off 0;" + (char) c, isBlank(c) ? 7 : 6);
    }

    /** Each number of a clause by three digits and by four. */
    private static void numbersOf4Digits() {
        String[] words = {"box", "kind", "weigh", "off"};
        int[] many = {5, 3, 3, 1};
        for (int w = 0; w < 4; w++) {
            for (int k = 0; k < many[w]; k++) {
                StringBuilder three = new StringBuilder(words[w]), four = new StringBuilder(words[w]);
                int place = words[w].length() + 1 + 2 * k;
                for (int i = 0; i < many[w]; i++) {
                    three.append(' ').append(i == k ? "999" : "9");
                    four.append(' ').append(i == k ? "0000" : "9");
                }
                due(three.toString(), 0);
                dueFault(four.toString(), place);
            }
        }
    }

    private static void longNumbersAndWords() {
        dueFault("off " + "9".repeat(56), 4);
        dueFault("off " + "0".repeat(56), 4);
        dueFault("off 4294967296", 4);
        dueFault("1234", 0);
        dueFault("off 0;1234", 6);
        dueFault("off 0 1234", 6);
        dueFault("a".repeat(60), 0);
        dueFault("off" + "f".repeat(57), 0);
        dueFault("off 0;" + "o".repeat(54), 6);
        due("off 000", 0);
        due("off 999", 0);
    }

    private static void wordsAlmostRight() {
        String[] wrong = {"o", "of", "offf", "ofg", "oaf", "b", "bo", "boxx", "bix", "boxo", "k", "kin", "kindd", "kinds",
            "kint", "w", "weig", "weighh", "weighs", "weigt", "boxoff", "offbox", "a", "z",
            "aff", "zff", "xff", "cox", "fox", "bind", "mind", "neigh", "xeigh", "ox", "ff", "ind", "eigh"};
        for (String word : wrong) {
            dueFault(word + " 0", 0);
            dueFault("off 0;" + word + " 0", 6);
        }
    }

    private static void tooManyNumbers() {
        dueFault("off 0 0", 6);
        dueFault("kind 0 0 0 0", 11);
        dueFault("weigh 0 1 1 1", 12);
        dueFault("box 0 0 0 111 1 1", 16);
        dueFault("off 0 off 0", 6);
        dueFault("off 0off 0", 5);
    }

    private static void tooFewNumbers() {
        dueFault("off;", 3);
        dueFault("kind 0 0;", 8);
        dueFault("weigh 0 1;", 9);
        dueFault("box 0 0 0 111;", 13);
        dueFault("kind off 0", 5);
        dueFault("kind 0 0", 8);
        dueFault("weigh 0 1", 9);
        dueFault("box 0 0 0 111 off 0", 14);
    }

    private static void blanksAnywhere() {
        due("box0 0 0 111 1", 1);
        due("box 0 0 0 111 1 ;off 0", 2);
        due("\n\n \nbox\n0\n0\n0\n111\n1\n;\noff\n0\n \n", 2);
        due("box 0 0 0 111 1;off0", 2);
        dueFault("b ox 0 0 0 111 1", 0);
        dueFault("of f 0", 0);
        dueFault("off 0; ;", 7);
        dueFault("off\t0", 3);
        dueFault("off\r0", 3);
    }

    private static void refusedClauses() {
        due("box 6 0 0 111 1;box 0 8 0 111 1;box 0 0 0 11 1", 0);
        due("box 0 0 0 111 0;box 0 0 0 112 999;off 9;off 0;off 0", 2);
        due("box 0 0 0 111 1;kind 0 6 0;kind 0 0 10;kind 0 5 9;kind 1 0 0", 2);
        due("box0 0 0 111 1;weigh0 27 37;weigh0 2 500;weigh0 999 999", 2);
        due("box0 0 0 444 1;box0 0 0 444 1;box0 0 0 444 1;box0 0 0 111 1", 3);
        due("box0 0 0 111 1;box0 0 0 111 1;off 0;off 1;off 0;off 1", 4);
        PileSteadier x = new PileSteadier();
        for (int i = 0; i < 7; i++) Check.due("27: box " + i, Scenes.say(x, "box 0 " + i + " 0 111 1"), 1);
        Check.due("27: an eighth", Scenes.say(x, "box 0 7 0 111 1"), 0);
        Check.due("27: the first and the last", Scenes.say(x, "off 0;off 6;off 7"), 1);
        Check.due("33: six are there", x.count(1), 6);
        PileSteadier y = new PileSteadier();
        Scenes.say(y, "box 005 007 006 121 999;kind 000 002 009");
        int[] due = {2, 9, 7, 6, 0, 121, 999, 0, 3000, 69};
        for (int what = 0; what < 10; what++) Check.due("27: as called so, " + what, y.of(0, what), due[what]);
    }

    private static void noneDoneByAFault() {
        PileSteadier x = new PileSteadier();
        Check.due("27: a fault at the end", Scenes.say(x, "box 0 0 0 111 1;box 0 1 0 111 1;"), -132);
        Check.due("27: nobody came", x.count(0), 0);
        x.box(0, 0, 0, 111, 5);
        Check.due("27: a fault far behind", Scenes.say(x, "kind 0 5 5;weigh 0 9 9;off 0" + blanks(31) + "?"), -159);
        Check.due("27: as it was", x.of(0, 0), 0);
        Check.due("27: as heavy as it was", x.of(0, 6), 5);
        Check.due("27: it is there", x.of(0, 7), 0);
        Check.due("27: a fault of a later word", Scenes.say(x, "off 0;of 0"), -106);
        Check.due("27: it is there still", x.count(1), 1);
    }

    private static void emptyBehindEach() {
        PileSteadier x = new PileSteadier();
        Scenes.feed(x, "box 0 0 0 ");
        Check.due("27: a fault", x.text(), -110);
        Scenes.feed(x, "111 1");
        Check.due("27: what is fed then stands alone", x.text(), -100);
        Scenes.feed(x, "off 0");
        Check.due("27: done, none", x.text(), 0);
        Check.due("26: as of 0", x.feed(1, ';', 0, 0, 0, 0), 1);
        Check.due("27: a sign alone", x.text(), -100);
        Check.due("27: nothing", x.text(), -100);
        Check.due("7: STATE is no fault", Scenes.tower().off(0), STATE);
    }

    private static void mostClauses() {
        PileSteadier x = new PileSteadier();
        for (int i = 0; i < 7; i++) x.box(0, 7, i, 111, 1);
        Check.due("27: twelve, seven are done",
            Scenes.say(x, "off0;off1;off2;off3;off4;off5;off6;off0;off1;off2;off3;off4"), 7);
        Check.due("33: nobody is left", x.count(1), 0);
        due("off 0;".repeat(9) + "off 00", 0);
        due("off0;".repeat(11) + "off0 ", 0);
        dueFault("off0;".repeat(11) + "off0;", 60);
        dueFault("off0;".repeat(11) + "off0x", 59);
        dueFault("off0;".repeat(11) + "off;0", 58);
    }
}
