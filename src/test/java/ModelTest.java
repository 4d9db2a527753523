/** Long runs of calls on the class and on the slow model: every answer is the same. */
final class ModelTest {
    /** An object answers 512 calls; a turn takes some 20 at most. */
    private static final int RUNS = 400, TURNS = 250, CALLS = 512 - 30;

    private long drawn;
    private int calls = 0;

    private ModelTest(long seed) {
        drawn = seed;
    }

    static void run() {
        for (int r = 0; r < RUNS; r++) new ModelTest(r).runOnce(r);
    }

    /** The next number from 0 to below a bound; a run is the same each time. */
    private int below(int bound) {
        drawn = drawn * 6364136223846793005L + 1442695040888963407L;
        return (int) ((drawn >>> 33) % bound);
    }

    private int pick(int... choices) {
        return choices[below(choices.length)];
    }

    /** Mostly from least to most, now and then outside. */
    private int number(int least, int most) {
        if (below(25) > 0) return least + below(most - least + 1);
        return pick(least - 1, most + 1, least - 2, -1, 1000, Integer.MAX_VALUE, Integer.MIN_VALUE);
    }

    private int size() {
        if (below(20) == 0) return pick(0, 111, 115, 501, 1111, -111, 44);
        return 100 * (1 + below(4)) + 10 * (1 + below(4)) + 1 + below(below(3) == 0 ? 4 : 2);
    }

    private int weight() {
        return below(4) == 0 ? number(1, 999) : number(1, 40);
    }

    private int box() {
        return number(0, 6);
    }

    private void runOnce(int run) {
        PileSteadier x = new PileSteadier();
        SlowModel m = new SlowModel();
        // Some runs keep to a corner, so that their piles are high.
        int spread = 2 + below(7);
        for (int i = 0; i < 3 + below(5); i++) comeBox(run, x, m, spread);
        for (int i = 0; i < TURNS && calls < CALLS; i++) {
            int group = below(10);
            if (group < 2) change(run, x, m, spread);
            else if (group < 4) askOfBoxes(run, x, m);
            else if (group < 7) askOfAll(run, x, m);
            else host(run, x, m);
        }
    }

    private void same(int run, String call, long got, long due) {
        calls++;
        Check.due("model run " + run + ": " + call, got, due);
    }

    private static String call(String name, int... arguments) {
        return name + java.util.Arrays.toString(arguments);
    }

    private void comeBox(int run, PileSteadier x, SlowModel m, int spread) {
        int k = number(0, 5), a = number(0, spread - 1), b = number(0, spread - 1), s = size(), w = weight();
        same(run, call("box", k, a, b, s, w), x.box(k, a, b, s, w), m.box(k, a, b, s, w));
    }

    private void change(int run, PileSteadier x, SlowModel m, int spread) {
        int b = box(), k = number(0, 5), f = number(0, 9), n = number(-3, 30), each = number(-3, 40);
        switch (below(7)) {
            case 0 -> comeBox(run, x, m, spread);
            case 1 -> same(run, call("kind", b, k, f), x.kind(b, k, f), m.kind(b, k, f));
            case 2 -> same(run, call("weigh", b, n, each), x.weigh(b, n, each), m.weigh(b, n, each));
            case 3 -> same(run, call("off", b), x.off(b), m.off(b));
            case 4 -> {
                if (below(3) == 0) same(run, "image", x.image(), m.image());
            }
            case 5 -> {
                if (below(3) == 0) same(run, "back", x.back(), m.back());
            }
            default -> sayText(run, x, m);
        }
    }

    private void askOfBoxes(int run, PileSteadier x, SlowModel m) {
        int b = box(), o = number(-1, 6), two = number(0, 1), part = number(0, 1);
        switch (below(10)) {
            case 0 -> same(run, call("of", b, o + 3), x.of(b, o + 3), m.of(b, o + 3));
            case 1 -> same(run, call("taken", b, o), x.taken(b, o), m.taken(b, o));
            case 2 -> same(run, call("on", b, two), x.on(b, two), m.on(b, two));
            case 3 -> same(run, call("contact", b, o), x.contact(b, o), m.contact(b, o));
            case 4 -> same(run, call("load", b), x.load(b), m.load(b));
            case 5 -> same(run, call("hands", b, o), x.hands(b, o), m.hands(b, o));
            case 6 -> same(run, call("centre", b, two, part), x.centre(b, two, part), m.centre(b, two, part));
            case 7 -> same(run, call("corner", b, o, two), x.corner(b, o, two), m.corner(b, o, two));
            case 8 -> same(run, call("lies", b), x.lies(b), m.lies(b));
            default -> same(run, call("way", b), x.way(b), m.way(b));
        }
    }

    private void askOfAll(int run, PileSteadier x, SlowModel m) {
        int what = number(0, 4), side = number(0, 3), t = number(0, 99), b = box(), seed = number(-9, 99);
        int s = size(), w = weight(), two = number(0, 1), n = number(1, 8), many = number(1, 20);
        switch (below(12)) {
            case 0, 1 -> same(run, call("stands", what), x.stands(what), m.stands(what));
            case 2, 3 -> same(run, call("fails", what), x.fails(what), m.fails(what));
            case 4 -> same(run, call("tilt", side, t), x.tilt(side, t), m.tilt(side, t));
            case 5 -> same(run, call("most", side), x.most(side), m.most(side));
            case 6 -> same(run, "free", x.free(), m.free());
            case 7 -> same(run, call("order", b - 1), x.order(b - 1), m.order(b - 1));
            case 8 -> same(run, call("without", b), x.without(b), m.without(b));
            case 9 -> same(run, call("spot", s, w, two), x.spot(s, w, two), m.spot(s, w, two));
            case 10 -> same(run, call("bumps", seed, n), x.bumps(seed, n), m.bumps(seed, n));
            default -> same(run, call("chance", seed, many, n, two), x.chance(seed, many, n, two),
                m.chance(seed, many, n, two));
        }
    }

    private void host(int run, PileSteadier x, SlowModel m) {
        int s = number(0, 3), o = number(0, 3), sort = number(-1, 1), i = number(0, 12), j = number(0, 12);
        int n = number(0, 7), v = pick(number(0, 6), number(0, 6), number(0, 300), size()), what = number(0, 5);
        int told = below(2) == 0 ? below(2) : number(10, 16);
        switch (below(10)) {
            case 0 -> same(run, call("sheet", s, sort, i + 8), x.sheet(s, sort, i + 8), m.sheet(s, sort, i + 8));
            case 1, 2, 3 -> same(run, call("put", s, i, v), x.put(s, i, v), m.put(s, i, v));
            case 4 -> same(run, call("copy", s, i, o, j, n), x.copy(s, i, o, j, n), m.copy(s, i, o, j, n));
            case 5 -> same(run, call("film", s), x.film(s), m.film(s));
            case 6, 7 -> same(run, call("tells", s, told), x.tells(s, told), m.tells(s, told));
            case 8 -> same(run, call("count", what), x.count(what), m.count(what));
            default -> boxesBySheet(run, x, m, s);
        }
    }

    private void boxesBySheet(int run, PileSteadier x, SlowModel m, int s) {
        int sort = below(2), from = below(3), n = number(0, 3);
        if (below(2) == 0) {
            same(run, "sheet", x.sheet(s, sort, 16), m.sheet(s, sort, 16));
            int[] row = {below(6), below(8), below(8), size(), weight()};
            for (int i = 0; i < 16; i++) {
                int v = i == 0 ? 0 : i < 6 ? row[i - 1] : below(200);
                same(run, "put", x.put(s, i, v), m.put(s, i, v));
            }
        }
        same(run, call("comes", s, sort, from, n), x.comes(s, sort, from, n), m.comes(s, sort, from, n));
    }

    private String clause() {
        return switch (below(4)) {
            case 0 -> "box " + number(0, 5) + " " + number(0, 7) + " " + number(0, 7) + " " + size() + " " + weight();
            case 1 -> "kind " + box() + " " + number(0, 5) + " " + number(0, 9);
            case 2 -> "weigh " + box() + " " + number(0, 30) + " " + number(0, 40);
            default -> "off " + box();
        };
    }

    private void sayText(int run, PileSteadier x, SlowModel m) {
        StringBuilder text = new StringBuilder(clause());
        for (int i = below(4); i > 0; i--) text.append((char) pick(';', ';', ';', ' ')).append(clause());
        if (below(3) == 0) text.setCharAt(below(text.length()), (char) pick('o', '7', ';', ' ', '\n', 200, 0, '-'));
        if (below(4) == 0) text.deleteCharAt(below(text.length()));
        for (int i = 0; i < text.length(); i += 5) {
            int[] v = new int[5];
            int n = Math.min(5, text.length() - i);
            for (int k = 0; k < n; k++) v[k] = text.charAt(i + k);
            same(run, "feed", x.feed(n, v[0], v[1], v[2], v[3], v[4]), m.feed(n, v[0], v[1], v[2], v[3], v[4]));
        }
        if (below(10) > 0) same(run, "text of " + text, x.text(), m.text());
    }
}
