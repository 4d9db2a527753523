/** Promises 26 and 27: the tape and its texts. */
final class TextTest {
    private TextTest() { }

    static void run() {
        feeds();
        feedsInOrder();
        clauses();
        blanks();
        clausesInTurn();
        faults();
        faultsOfEnds();
        longTexts();
    }

    private static void feeds() {
        PileSteadier x = new PileSteadier();
        Check.due("26: one", x.feed(1, 'o', 0, 0, 0, 0), 1);
        Check.due("26: five", x.feed(5, 'f', 'f', ' ', '0', ';'), 6);
        Check.due("26: n", x.feed(0, 1, 1, 1, 1, 1), PileSteadier.BAD);
        Check.due("26: n above", x.feed(6, 1, 1, 1, 1, 1), PileSteadier.BAD);
        for (int k = 0; k < 5; k++) {
            for (int wrong : new int[] {-1, 256, Integer.MIN_VALUE}) {
                int[] v = new int[5];
                v[k] = wrong;
                Check.due("26: no byte", x.feed(1, v[0], v[1], v[2], v[3], v[4]), PileSteadier.BAD);
            }
        }
        Check.due("26: refusals feed nothing", x.count(2), 6);
        Check.due("26: 255 is a byte", x.feed(4, 255, 255, 255, 255, 255), 10);
        for (int i = 3; i <= 11; i++) Check.due("26: behind", x.feed(5, 9, 9, 9, 9, 9), 5 * i);
        Check.due("26: up to 59", x.feed(4, 9, 9, 9, 9, 9), 59);
        Check.due("26: beyond 60", x.feed(2, 9, 9, 9, 9, 9), PileSteadier.FULL);
        Check.due("26: bad ahead of full", x.feed(2, 9, 9, 9, 9, 256), PileSteadier.BAD);
        Check.due("26: just 60", x.feed(1, 9, 9, 9, 9, 9), 60);
        Check.due("26: no room", x.feed(1, 9, 9, 9, 9, 9), PileSteadier.FULL);
        Check.due("26: still 60", x.count(2), 60);
    }

    private static void dueText(String name, PileSteadier x, String text, int due) {
        Check.due("27: " + name, Scenes.say(x, text), due);
        Check.due("27: empty behind " + name, x.count(2), 0);
    }

    /** Only the first n of the five are fed, in their order. */
    private static void feedsInOrder() {
        PileSteadier x = new PileSteadier();
        Check.due("26: two", x.feed(2, 'b', 'o', 'z', 'z', 'z'), 2);
        Check.due("26: three", x.feed(3, 'x', ' ', '0', 'z', 'z'), 5);
        Check.due("26: four", x.feed(4, ' ', '1', ' ', '2', 'z'), 9);
        Check.due("26: five", x.feed(5, ' ', '1', '2', '3', ' '), 14);
        Check.due("26: one, again", x.feed(1, '9', 'z', 'z', 'z', 'z'), 15);
        Check.due("26: as fed", x.text(), 1);
        Check.due("26: X as fed", x.of(0, 2), 1);
        Check.due("26: size as fed", x.of(0, 5), 123);
    }

    private static void clauses() {
        PileSteadier x = new PileSteadier();
        dueText("box", x, "box 2 1 3 321 45", 1);
        int[] due = {2, 0, 1, 3, 0, 321, 45};
        for (int what = 0; what < due.length; what++) Check.due("27: of, " + what, x.of(0, what), due[what]);
        dueText("kind", x, "kind 0 5 7", 1);
        Check.due("27: kind", x.of(0, 0), 5);
        Check.due("27: figure", x.of(0, 1), 7);
        dueText("weigh", x, "weigh 0 5 13", 1);
        Check.due("27: weight", x.of(0, 6), 65);
        dueText("off", x, "off 0", 1);
        Check.due("27: gone", x.of(0, 7), 1);
    }

    private static void blanks() {
        PileSteadier x = new PileSteadier();
        dueText("all around", x, "\n  box  0 0\n0 111 \n 1 \n;  off 0 \n", 2);
        dueText("none where none is needed", x, "box0 0 0 111 1;off1", 2);
        dueText("numbers with 0 ahead", x, "box 000 00 007 111 001", 1);
        Check.due("27: 007", x.of(2, 3), 7);
        Check.due("27: only blanks", Scenes.say(x, "  \n"), -103);
        Check.due("27: another blank", Scenes.say(x, "off\t0"), -103);
    }

    private static void clausesInTurn() {
        PileSteadier x = new PileSteadier();
        dueText("refused ones aren't done", x, "off 0;box 0 0 0 111 1;box 9 0 0 111 1;box 0 0 0 111 1;off 0", 2);
        Check.due("27: two are there", x.stands(4), 3);
        dueText("one behind the other", x, "off 1;off 0;off 0", 2);
        PileSteadier none = new PileSteadier();
        dueText("none is done by a fault", none, "box 0 0 0 111 1;box 0 0 0 111 1;off", -135);
        Check.due("27: nobody came", none.count(0), 0);
        dueText("full", none, "weigh 0 999 999", 0);
    }

    private static void faults() {
        PileSteadier x = new PileSteadier();
        dueText("no word of these", x, "on 0", -100);
        dueText("a longer word", x, "offs 0", -100);
        dueText("a word with an a behind", x, "offa 0", -100);
        dueText("a word with a z behind", x, "offz 0", -100);
        dueText("a shorter word", x, "of 0", -100);
        dueText("a great letter", x, "Off 0", -100);
        dueText("a number first", x, "0 off", -100);
        dueText("a sign first", x, ";off 0", -100);
        dueText("a blank ahead", x, " 0", -101);
        dueText("word for a number", x, "off off", -104);
        dueText("no word, for a number", x, "off x", -104);
        dueText("sign for a number", x, "kind 0 1;", -108);
        dueText("number for a sign", x, "off 0 1", -106);
        dueText("word for a sign", x, "off 0 off 1", -106);
        dueText("no sign between", x, "off 0off 1", -105);
        dueText("two signs", x, "off 0;;off 1", -106);
        dueText("a number of 4 digits", x, "off 0000", -104);
        dueText("a great number", x, "off 99999999999999999999", -104);
        dueText("a long number for a word", x, "off 0;1234", -106);
        dueText("a byte that begins none", x, "off 0,", -105);
        dueText("a minus", x, "off -1", -104);
        dueText("the first of two", x, "off ?;!", -104);
        x.feed(1, 0, 0, 0, 0, 0);
        Check.due("27: byte 0", x.text(), -100);
        x.feed(4, 'o', 'f', 'f', 200, 0);
        Check.due("27: byte 200", x.text(), -103);
        Check.due("27: nobody came", x.count(0), 0);
    }

    private static void faultsOfEnds() {
        PileSteadier x = new PileSteadier();
        dueText("nothing", x, "", -100);
        dueText("word alone", x, "box", -103);
        dueText("word and blanks", x, "box  ", -105);
        dueText("too few numbers", x, "box 0 0 0 111", -113);
        dueText("sign at the end", x, "off 0;", -106);
        dueText("sign and a blank at the end", x, "off 0; ", -107);
        dueText("half a word", x, "off 0;bo", -106);
    }

    private static void longTexts() {
        PileSteadier x = new PileSteadier();
        StringBuilder twelve = new StringBuilder();
        for (int i = 0; i < 12; i++) twelve.append(i == 0 ? "off0" : ";off0");
        dueText("twelve clauses", x, twelve.toString(), 0);
        dueText("twelve clauses and a sign", x, twelve + ";", -160);
        StringBuilder weighs = new StringBuilder("box 0 0 0 111 1");
        for (int i = 0; i < 4; i++) weighs.append(";weigh 0 1 1");
        dueText("five clauses", x, weighs.substring(0, 15 + 12 * 3), 4);
        StringBuilder letters = new StringBuilder();
        for (int i = 0; i < 60; i++) letters.append('z');
        dueText("a word of 60", x, letters.toString(), -100);
    }
}
