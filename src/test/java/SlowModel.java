import java.math.BigInteger;
import java.util.ArrayList;
import java.util.Comparator;
import java.util.HashMap;
import java.util.List;
import java.util.Map;

/**
 * The document written a second time, by other means and without care for speed: areas as sets of unit squares,
 * loads by recursion, fractions of BigIntegers, polygons by the lines that leave no point to their right.
 */
final class SlowModel {
    static final int NONE = -1, BAD = -2, STATE = -3, FULL = -4;

    private record Point(int x, int y) { }

    private record Line(Point from, Point to) { }

    private record Fraction(BigInteger above, BigInteger below) {
        static Fraction of(long above, long below) {
            return new Fraction(BigInteger.valueOf(above), BigInteger.valueOf(below));
        }

        Fraction plus(Fraction o) {
            return new Fraction(above.multiply(o.below).add(o.above.multiply(below)), below.multiply(o.below));
        }

        Fraction times(long n) {
            return new Fraction(above.multiply(BigInteger.valueOf(n)), below);
        }

        Fraction by(long n) {
            return new Fraction(above, below.multiply(BigInteger.valueOf(n)));
        }

        Fraction lowest() {
            BigInteger g = above.gcd(below);
            return new Fraction(above.divide(g), below.divide(g));
        }
    }

    private static final class Box {
        int kind, figure, x, y, z, w, d, h, weight;
        boolean gone;

        Box copy() {
            Box b = new Box();
            b.kind = kind;
            b.figure = figure;
            b.x = x;
            b.y = y;
            b.z = z;
            b.w = w;
            b.d = d;
            b.h = h;
            b.weight = weight;
            b.gone = gone;
            return b;
        }

        boolean covers(int cellX, int cellY) {
            return cellX >= x && cellX < x + w && cellY >= y && cellY < y + d;
        }

        boolean reaches(int height) {
            return height >= z && height < z + h;
        }

        int bears() {
            int crate = 600 + 100 * figure, fragile = 20 * figure;
            return new int[] {crate, fragile, 2 * crate, fragile / 2, 300, 2 * crate}[kind];
        }

        int grip() {
            return new int[] {60, 60, 60 + figure, 50, 5 + figure, 80 + figure}[kind];
        }

        Fraction own(int axis) {
            Fraction middle = axis == 0 ? Fraction.of(2L * x + w, 2) : Fraction.of(2L * y + d, 2);
            if (axis == 0 && kind == 2) return middle.plus(Fraction.of((long) figure * w, 20));
            if (axis == 0 && kind == 5) return middle.plus(Fraction.of((long) -figure * w, 20));
            if (axis == 1 && kind == 4) return middle.plus(Fraction.of((long) figure * d, 20));
            return middle;
        }
    }

    private static List<Point> commonCells(Box a, Box b) {
        List<Point> cells = new ArrayList<>();
        for (int x = 0; x < 8; x++) {
            for (int y = 0; y < 8; y++) {
                if (a.covers(x, y) && b.covers(x, y)) cells.add(new Point(x, y));
            }
        }
        return cells;
    }

    /** What holds of those of some boxes that aren't gone. */
    private static final class World {
        final List<Box> boxes;
        final Map<Integer, List<Line>> lines = new HashMap<>();
        final Map<Integer, Integer> hefts = new HashMap<>();

        World(List<Box> boxes) {
            this.boxes = boxes;
        }

        boolean there(int b) {
            return b >= 0 && b < boxes.size() && !boxes.get(b).gone;
        }

        boolean rests(int b, int a) {
            if (!there(a) || !there(b)) return false;
            return boxes.get(a).z + boxes.get(a).h == boxes.get(b).z && contact(b, a) > 0;
        }

        int contact(int b, int a) {
            return commonCells(boxes.get(b), boxes.get(a)).size();
        }

        int set(int box, boolean below) {
            int bits = 0;
            for (int a = 0; a < boxes.size(); a++) {
                if (below ? rests(box, a) : rests(a, box)) bits |= 1 << a;
            }
            return bits;
        }

        int load(int b) {
            return heft(b) - boxes.get(b).weight;
        }

        int heft(int b) {
            if (hefts.containsKey(b)) return hefts.get(b);
            int sum = boxes.get(b).weight;
            for (int c = 0; c < boxes.size(); c++) {
                if (rests(c, b)) sum += part(c, b);
            }
            hefts.put(b, sum);
            return sum;
        }

        int part(int c, int b) {
            int all = 0, cut = 0, whole = heft(c), ahead = 0;
            for (int a = 0; a < boxes.size(); a++) {
                if (rests(c, a)) all += contact(c, a);
            }
            for (int a = 0; a < boxes.size(); a++) {
                if (!rests(c, a)) continue;
                cut += whole * contact(c, a) / all;
                if (a < b) ahead++;
            }
            return whole * contact(c, b) / all + (ahead < whole - cut ? 1 : 0);
        }

        Fraction centre(int b, int axis) {
            Box it = boxes.get(b);
            Fraction sum = it.own(axis).times(it.weight);
            for (int c = 0; c < boxes.size(); c++) {
                if (rests(c, b)) sum = sum.plus(middle(commonCells(boxes.get(c), it), axis).times(part(c, b)));
            }
            return sum.by(heft(b)).lowest();
        }

        private static Fraction middle(List<Point> cells, int axis) {
            long twice = 0;
            for (Point p : cells) twice += 2L * (axis == 0 ? p.x : p.y) + 1;
            return Fraction.of(twice, 2L * cells.size());
        }

        List<Point> points(int b) {
            List<Point> cells = new ArrayList<>();
            Box it = boxes.get(b);
            if (it.z == 0) cells.addAll(commonCells(it, it));
            for (int a = 0; a < boxes.size(); a++) {
                if (rests(b, a)) cells.addAll(commonCells(it, boxes.get(a)));
            }
            List<Point> points = new ArrayList<>();
            for (Point c : cells) {
                for (int i = 0; i < 4; i++) {
                    Point p = new Point(c.x + i / 2, c.y + i % 2);
                    if (!points.contains(p)) points.add(p);
                }
            }
            return points;
        }

        private static int turn(Line l, Point p) {
            return (l.to.x - l.from.x) * (p.y - l.from.y) - (l.to.y - l.from.y) * (p.x - l.from.x);
        }

        private static List<Line> outline(List<Point> points) {
            List<Line> found = new ArrayList<>();
            for (Point p : points) {
                for (Point q : points) {
                    Line l = new Line(p, q);
                    if (!p.equals(q) && points.stream().allMatch(r -> turn(l, r) >= 0)) found.add(l);
                }
            }
            return found;
        }

        private static int place(List<Line> lines, Fraction x, Fraction y) {
            int found = lines.isEmpty() ? 0 : 2;
            for (Line l : lines) {
                Fraction turn = y.plus(Fraction.of(-l.from.y, 1)).times(l.to.x - l.from.x)
                    .plus(x.plus(Fraction.of(-l.from.x, 1)).times(l.from.y - l.to.y));
                int sign = turn.above.signum();
                if (sign < 0) return 0;
                if (sign == 0) found = 1;
            }
            return found;
        }

        List<Point> corners(int b) {
            List<Point> points = points(b), found = new ArrayList<>();
            for (Point p : points) {
                List<Point> others = new ArrayList<>(points);
                others.remove(p);
                if (place(outline(others), Fraction.of(p.x, 1), Fraction.of(p.y, 1)) == 0) found.add(p);
            }
            double midX = found.stream().mapToInt(Point::x).average().orElse(0);
            double midY = found.stream().mapToInt(Point::y).average().orElse(0);
            found.sort(Comparator.comparingDouble(p -> Math.atan2(p.y - midY, p.x - midX)));
            Point first = null;
            for (Point p : found) {
                if (first == null || p.x < first.x || p.x == first.x && p.y < first.y) first = p;
            }
            while (first != null && found.get(0) != first) found.add(found.remove(0));
            return found;
        }

        int lies(int b, int side, int t) {
            Box it = boxes.get(b);
            long by = 2L * t * it.h * load(b) + (long) t * it.h * it.weight;
            Fraction moved = Fraction.of(side % 2 == 0 ? by : -by, 200L * heft(b));
            Fraction x = centre(b, 0), y = centre(b, 1);
            if (side < 2) x = x.plus(moved);
            else y = y.plus(moved);
            return place(lines.computeIfAbsent(b, k -> outline(points(k))), x, y);
        }

        /** 1 FALLS, 2 CRUSHED, 3 TIPS, 4 slides, 0 stands. */
        int why(int b, int side, int t) {
            if (boxes.get(b).z != 0 && set(b, true) == 0) return 1;
            if (load(b) > boxes.get(b).bears()) return 2;
            if (lies(b, side, t) == 0) return 3;
            return t > boxes.get(b).grip() ? 4 : 0;
        }

        int failing(int side, int t) {
            int bits = 0;
            for (int b = 0; b < boxes.size(); b++) {
                if (there(b) && why(b, side, t) != 0) bits |= 1 << b;
            }
            return bits;
        }

        int way(int b) {
            Box it = boxes.get(b);
            int bits = 0;
            for (int a = 0; a < boxes.size(); a++) {
                if (!there(a)) continue;
                Box o = boxes.get(a);
                boolean y = false, z = false;
                for (int k = 0; k < 12; k++) {
                    y |= k >= o.y && k < o.y + o.d && k >= it.y && k < it.y + it.d;
                    z |= o.reaches(k) && it.reaches(k);
                }
                if (y && z && o.x >= it.x + it.w) bits |= 1 << a;
            }
            return bits;
        }

        World without(int b) {
            List<Box> copies = copyOf(boxes);
            copies.get(b).gone = true;
            return new World(copies);
        }

        boolean free(int b) {
            return there(b) && set(b, false) == 0 && way(b) == 0 && without(b).failing(0, 0) == 0;
        }

        int present() {
            int bits = 0;
            for (int b = 0; b < boxes.size(); b++) bits |= there(b) ? 1 << b : 0;
            return bits;
        }

        /** All orders from here: how many, by who is there; the first of each such set in another map. */
        int orders(Map<Integer, Integer> many, Map<Integer, List<Integer>> firsts) {
            int key = present();
            if (many.containsKey(key)) return many.get(key);
            int sum = 0;
            List<Integer> first = key == 0 ? new ArrayList<>() : null;
            for (int b = 0; b < boxes.size(); b++) {
                if (!free(b)) continue;
                World next = without(b);
                int found = next.orders(many, firsts);
                sum += found;
                if (found > 0 && first == null) {
                    first = new ArrayList<>();
                    first.add(b);
                    first.addAll(firsts.get(next.present()));
                }
            }
            if (key == 0) sum = 1;
            many.put(key, sum);
            firsts.put(key, first);
            return sum;
        }
    }

    private static List<Box> copyOf(List<Box> boxes) {
        List<Box> copies = new ArrayList<>();
        for (Box b : boxes) copies.add(b.copy());
        return copies;
    }

    private List<Box> boxes = new ArrayList<>();
    private List<Box> image = null;
    private StringBuilder tape = new StringBuilder();
    private final int[][] rows = new int[4][];
    private final int[] sorts = {-1, -1, -1, -1};

    private World now() {
        return new World(boxes);
    }

    private static boolean in(long v, long least, long most) {
        return v >= least && v <= most;
    }

    private static boolean goodSize(int size) {
        return String.valueOf(size).matches("[1-4]{3}");
    }

    int box(int kind, int x, int y, int size, int weight) {
        if (!in(kind, 0, 5) || !in(x, 0, 8) || !in(y, 0, 8) || !goodSize(size) || !in(weight, 1, 999)) return BAD;
        Box b = new Box();
        b.kind = kind;
        b.x = x;
        b.y = y;
        b.w = size / 100;
        b.d = size / 10 % 10;
        b.h = size % 10;
        b.weight = weight;
        if (x + b.w > 8 || y + b.d > 8) return BAD;
        if (boxes.size() == 7) return FULL;
        for (Box o : boxes) {
            if (!o.gone && !commonCells(o, b).isEmpty()) b.z = Math.max(b.z, o.z + o.h);
        }
        if (b.z + b.h > 12) return STATE;
        boxes.add(b);
        return boxes.size() - 1;
    }

    int of(int box, int what) {
        if (!in(box, 0, boxes.size() - 1) || !in(what, 0, 9)) return BAD;
        Box b = boxes.get(box);
        int size = b.w * 100 + b.d * 10 + b.h;
        return new int[] {b.kind, b.figure, b.x, b.y, b.z, size, b.weight, b.gone ? 1 : 0, b.bears(), b.grip()}[what];
    }

    int kind(int box, int kind, int figure) {
        if (!now().there(box) || !in(kind, 0, 5) || !in(figure, 0, 9)) return BAD;
        Box b = boxes.get(box);
        int was = b.kind * 10 + b.figure;
        b.kind = kind;
        b.figure = figure;
        return was;
    }

    int weigh(int box, int n, int each) {
        if (!now().there(box)) return BAD;
        BigInteger all = BigInteger.valueOf(n).multiply(BigInteger.valueOf(each));
        if (all.bitLength() > 31) return FULL;
        if (!in(all.intValueExact(), 1, 999)) return BAD;
        int was = boxes.get(box).weight;
        boxes.get(box).weight = all.intValueExact();
        return was;
    }

    int taken(int box, int k) {
        if (!now().there(box) || !in(k, 0, 5)) return BAD;
        String[] under = {"0", "01", "02", "013", "04", "025"};
        Box b = boxes.get(box);
        return under[b.kind].indexOf('0' + k) >= 0 ? b.bears() : -13;
    }

    int off(int box) {
        if (!now().there(box)) return BAD;
        if (!now().free(box)) return STATE;
        boxes.get(box).gone = true;
        return count(1);
    }

    int on(int box, int what) {
        return now().there(box) && in(what, 0, 1) ? now().set(box, what == 0) : BAD;
    }

    private boolean badTwo(int box, int other) {
        return !now().there(box) || box == other || (other != NONE && !now().there(other));
    }

    int contact(int box, int other) {
        if (badTwo(box, other)) return BAD;
        Box b = boxes.get(box);
        if (other == NONE) return b.z == 0 ? b.w * b.d : 0;
        return now().rests(box, other) ? now().contact(box, other) : 0;
    }

    int load(int box) {
        return now().there(box) ? now().load(box) : BAD;
    }

    int hands(int box, int other) {
        if (badTwo(box, other)) return BAD;
        if (other == NONE) return boxes.get(box).z == 0 ? now().heft(box) : 0;
        return now().rests(box, other) ? now().part(box, other) : 0;
    }

    long centre(int box, int axis, int part) {
        if (!now().there(box) || !in(axis, 0, 1) || !in(part, 0, 1)) return Long.MIN_VALUE;
        Fraction f = now().centre(box, axis);
        return (part == 0 ? f.above : f.below).longValueExact();
    }

    int corner(int box, int k, int axis) {
        if (!now().there(box) || !in(axis, 0, 1)) return BAD;
        List<Point> corners = now().corners(box);
        if (k == NONE) return corners.size();
        if (!in(k, 0, corners.size() - 1)) return -12;
        return axis == 0 ? corners.get(k).x : corners.get(k).y;
    }

    int lies(int box) {
        return now().there(box) ? now().lies(box, 0, 0) : BAD;
    }

    int stands(int what) {
        if (!in(what, 0, 4)) return BAD;
        World w = now();
        if (what == 4) return w.present();
        int bits = 0;
        for (int b = 0; b < boxes.size(); b++) {
            if (w.there(b) && w.why(b, 0, 0) == (what + 1) % 4) bits |= 1 << b;
        }
        return bits;
    }

    int fails(int what) {
        if (!in(what, 0, 4)) return BAD;
        World w = now();
        int fail = 0;
        while (fail < boxes.size() && (!w.there(fail) || w.why(fail, 0, 0) == 0)) fail++;
        if (fail == boxes.size()) return what == 1 || what == 3 ? 0 : NONE;
        List<Integer> causes = new ArrayList<>();
        for (int b = fail; w.set(b, false) != 0; ) {
            int best = NONE, most = -1;
            for (int c = 0; c < boxes.size(); c++) {
                if (w.rests(c, b) && w.part(c, b) > most) {
                    most = w.part(c, b);
                    best = c;
                }
            }
            causes.add(best);
            b = best;
        }
        int cause = causes.isEmpty() ? NONE : causes.get(0);
        int root = causes.isEmpty() ? NONE : causes.get(causes.size() - 1);
        return new int[] {fail, w.why(fail, 0, 0), cause, causes.size(), root}[what];
    }

    int tilt(int side, int t) {
        return in(side, 0, 3) && in(t, 0, 99) ? now().failing(side, t) : BAD;
    }

    int most(int side) {
        if (!in(side, 0, 3)) return BAD;
        World w = now();
        int most = NONE;
        for (int t = 0; t < 100; t++) {
            if (w.failing(side, t) == 0) most = t;
        }
        return most;
    }

    int free() {
        int bits = 0;
        for (int b = 0; b < boxes.size(); b++) bits |= now().free(b) ? 1 << b : 0;
        return bits;
    }

    int way(int box) {
        return now().there(box) ? now().way(box) : BAD;
    }

    private List<Integer> firstOrder() {
        Map<Integer, List<Integer>> firsts = new HashMap<>();
        now().orders(new HashMap<>(), firsts);
        return firsts.get(now().present());
    }

    int order(int k) {
        if (!in(k, NONE, count(1) - 1)) return -12;
        if (k == NONE) return now().orders(new HashMap<>(), new HashMap<>());
        return firstOrder() == null ? NONE : firstOrder().get(k);
    }

    int without(int box) {
        return now().there(box) ? now().without(box).failing(0, 0) : BAD;
    }

    int spot(int size, int weight, int what) {
        if (!goodSize(size) || !in(weight, 1, 999) || !in(what, 0, 1)) return BAD;
        if (boxes.size() == 7) return FULL;
        List<Integer> places = new ArrayList<>();
        for (int y = 0; y < 8; y++) {
            for (int x = 0; x < 8; x++) {
                SlowModel tried = new SlowModel();
                tried.boxes = copyOf(boxes);
                if (tried.box(0, x, y, size, weight) >= 0 && tried.tilt(0, 0) == 0) places.add(8 * y + x);
            }
        }
        return what == 1 ? places.size() : places.isEmpty() ? NONE : places.get(0);
    }

    int bumps(int seed, int n) {
        if (!in(n, 1, 30)) return BAD;
        World w = now();
        BigInteger z = BigInteger.valueOf(seed);
        int[] drawn = new int[2 * n];
        for (int i = 0; i < 2 * n; i++) {
            z = z.multiply(BigInteger.valueOf(1103515245)).add(BigInteger.valueOf(12345))
                .mod(BigInteger.ONE.shiftLeft(32));
            drawn[i] = z.shiftRight(9).mod(BigInteger.valueOf(i % 2 == 0 ? 4 : 60)).intValue();
        }
        for (int i = 0; i < n; i++) {
            if (w.failing(drawn[2 * i], drawn[2 * i + 1]) != 0) return i;
        }
        return NONE;
    }

    int chance(int seed, int m, int n, int part) {
        if (!in(m, 1, 20) || !in(n, 1, 30) || !in(part, 0, 1)) return BAD;
        int borne = 0;
        for (int i = 0; i < m; i++) borne += bumps(seed + i, n) == NONE ? 1 : 0;
        Fraction f = Fraction.of(borne, m).lowest();
        return (part == 0 ? f.above : f.below).intValueExact();
    }

    int feed(int n, int a, int b, int c, int d, int e) {
        int[] all = {a, b, c, d, e};
        if (!in(n, 1, 5)) return BAD;
        for (int v : all) {
            if (!in(v, 0, 255)) return BAD;
        }
        if (tape.length() + n > 60) return FULL;
        for (int i = 0; i < n; i++) tape.append((char) all[i]);
        return tape.length();
    }

    private record Token(char sort, String text, int place) { }

    private static List<Token> tokens(String text) {
        List<Token> found = new ArrayList<>();
        var m = java.util.regex.Pattern.compile("([a-z]+)|([0-9]+)|(;)|([ \n]+)|([^a-z0-9; \n])",
            java.util.regex.Pattern.DOTALL).matcher(text);
        while (m.find()) {
            if (m.group(1) != null) found.add(new Token('w', m.group(), m.start()));
            if (m.group(2) != null) found.add(new Token(m.group().length() > 3 ? '?' : 'n', m.group(), m.start()));
            if (m.group(3) != null) found.add(new Token(';', m.group(), m.start()));
            if (m.group(5) != null) found.add(new Token('?', m.group(), m.start()));
        }
        found.add(new Token('e', "", text.length()));
        return found;
    }

    int text() {
        List<Token> tokens = tokens(tape.toString());
        tape.setLength(0);
        Map<String, Integer> words = Map.of("box", 5, "kind", 3, "weigh", 3, "off", 1);
        List<List<String>> clauses = new ArrayList<>();
        int missing = -1;
        for (Token t : tokens) {
            boolean fits;
            if (missing == -1) {
                fits = t.sort == 'w' && words.containsKey(t.text);
                if (fits) {
                    clauses.add(new ArrayList<>(List.of(t.text)));
                    missing = words.get(t.text);
                }
            } else if (missing > 0) {
                fits = t.sort == 'n';
                clauses.get(clauses.size() - 1).add(t.text);
                missing--;
            } else {
                fits = t.sort == ';' || t.sort == 'e';
                missing = -1;
            }
            if (!fits) return -100 - t.place;
        }
        int done = 0;
        for (List<String> c : clauses) done += perform(c) >= 0 ? 1 : 0;
        return done;
    }

    private int perform(List<String> clause) {
        int[] n = clause.stream().skip(1).mapToInt(Integer::parseInt).toArray();
        return switch (clause.get(0)) {
            case "box" -> box(n[0], n[1], n[2], n[3], n[4]);
            case "kind" -> kind(n[0], n[1], n[2]);
            case "weigh" -> weigh(n[0], n[1], n[2]);
            default -> off(n[0]);
        };
    }

    int tells(int sheet, int what) {
        if (in(what, 10, 16)) return kinds(what - 10);
        if (!in(what, 0, 1) || !in(sheet, 0, 3)) return BAD;
        if (rows[sheet] == null) return -11;
        World w = now();
        for (int i = 0; i < rows[sheet].length; i++) {
            int b = rows[sheet][i];
            if (!w.free(b)) return what == 0 ? i : w.present();
            w = w.without(b);
        }
        return what == 0 ? NONE : w.present();
    }

    private int kinds(int box) {
        if (!now().there(box)) return BAD;
        int bits = 0;
        for (int k = 0; k < 6; k++) {
            List<Box> copies = copyOf(boxes);
            copies.get(box).kind = k;
            if (new World(copies).failing(0, 0) == 0) bits |= 1 << k;
        }
        return bits;
    }

    int film(int sheet) {
        if (!in(sheet, 0, 3)) return BAD;
        List<Integer> first = firstOrder();
        if (first == null) return NONE;
        rows[sheet] = first.stream().mapToInt(i -> i).toArray();
        sorts[sheet] = 0;
        return first.size();
    }

    int comes(int sheet, int sort, int from, int n) {
        if (!in(sheet, 0, 3) || !in(sort, 0, 1) || !in(n, 0, 7)) return BAD;
        if (rows[sheet] == null) return -11;
        if (sorts[sheet] != sort) return -13;
        int came = 0;
        for (long at = from, i = 0; i < n; i++, at += 5) {
            if (!in(at, 0, rows[sheet].length - 5)) return -12;
            int[] r = java.util.Arrays.copyOfRange(rows[sheet], (int) at, (int) at + 5);
            came += box(r[0], r[1], r[2], r[3], r[4]) >= 0 ? 1 : 0;
        }
        return came;
    }

    int image() {
        image = copyOf(boxes);
        return boxes.size();
    }

    int back() {
        if (image == null) return STATE;
        boxes = copyOf(image);
        return boxes.size();
    }

    int count(int what) {
        World w = now();
        int there = 0, weight = 0, twos = 0, floor = 0;
        for (int b = 0; b < boxes.size(); b++) {
            if (!w.there(b)) continue;
            there++;
            weight += boxes.get(b).weight;
            for (int a = 0; a < boxes.size(); a++) twos += w.rests(b, a) ? 1 : 0;
            if (boxes.get(b).z == 0) floor += w.heft(b);
        }
        if (!in(what, 0, 5)) return BAD;
        return new int[] {boxes.size(), there, tape.length(), weight, twos, floor}[what];
    }

    int sheet(int sheet, int sort, int n) {
        if (!in(sheet, 0, 3) || !in(sort, -1, 1) || (sort >= 0 && n > 40)) return BAD;
        if (sort >= 0 && n < 0) return -14;
        sorts[sheet] = sort;
        rows[sheet] = sort < 0 ? null : new int[n];
        return 1;
    }

    int put(int sheet, int i, int v) {
        if (!in(sheet, 0, 3)) return BAD;
        if (rows[sheet] == null) return -11;
        if (!in(i, 0, rows[sheet].length - 1)) return -12;
        rows[sheet][i] = sorts[sheet] == 0 ? Math.floorMod(v, 256) : v;
        return 1;
    }

    int copy(int sheet, int i, int other, int j, int n) {
        if (!in(sheet, 0, 3) || !in(other, 0, 3)) return BAD;
        if (rows[sheet] == null || rows[other] == null) return -11;
        if (sorts[sheet] != sorts[other]) return -13;
        int[] from = rows[sheet].clone(), to = rows[other];
        if (n < 0 || i < 0 || j < 0 || (long) i + n > from.length || (long) j + n > to.length) return -12;
        for (int k = 0; k < n; k++) to[j + k] = from[i + k];
        return n;
    }
}
