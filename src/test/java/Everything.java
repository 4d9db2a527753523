import java.util.ArrayList;
import java.util.List;

/** All that an object answers, as one row: what a call changed is seen by it. It takes some 380 calls of the 512. */
final class Everything {
    private final PileSteadier x;
    private final List<Long> answers = new ArrayList<>();

    private Everything(PileSteadier x) {
        this.x = x;
    }

    /** Asks an object for all that it tells; the object is used up by that (its tape is read, its image laid back). */
    static List<Long> of(PileSteadier x) {
        Everything all = new Everything(x);
        for (int b = 0; b < 7; b++) all.askOfBox(b);
        all.askOfAll();
        all.askInThought();
        all.askOfSheets();
        all.askOfContents();
        all.useUp();
        return all.answers;
    }

    private void add(long answer) {
        answers.add(answer);
    }

    private void askOfBox(int b) {
        for (int what = 0; what < 10; what++) add(x.of(b, what));
        for (int what = 0; what < 2; what++) add(x.on(b, what));
        for (int a = -1; a < 7; a++) add(x.hands(b, a));
        for (int i = 0; i < 4; i++) add(x.centre(b, i / 2, i % 2));
        add(x.contact(b, -1));
        add(x.corner(b, -1, 0));
        add(x.load(b));
        add(x.lies(b));
        add(x.way(b));
        add(x.without(b));
        add(x.tells(0, 10 + b));
    }

    private void askOfAll() {
        for (int what = 0; what < 5; what++) {
            add(x.stands(what));
            add(x.fails(what));
        }
        for (int what = 0; what < 6; what++) add(x.count(what));
        add(x.free());
        for (int k = -1; k < 7; k++) add(x.order(k));
        for (int side = 0; side < 4; side++) add(x.most(side));
    }

    private void askInThought() {
        add(x.tilt(0, 30));
        add(x.spot(221, 9, 0));
        add(x.spot(221, 9, 1));
        add(x.bumps(5, 9));
        add(x.chance(5, 9, 2, 0));
    }

    /** A sheet's sort and size, told by copying nothing, and by copying it onto itself. */
    private void askOfSheets() {
        for (int s = 0; s < 4; s++) {
            for (int o = 0; o < 4; o++) add(x.copy(s, 0, o, 0, 0));
            for (int n : new int[] {1, 2, 5, 10, 11, 39, 40}) add(x.copy(s, 0, s, 0, n));
            add(x.tells(s, 0));
            add(x.tells(s, 1));
        }
    }

    /** The numbers of the sheets, told by the boxes that come of them. */
    private void askOfContents() {
        for (int s = 0; s < 4; s++) {
            for (int sort = 0; sort < 2; sort++) add(x.comes(s, sort, 0, 1));
            int last = x.count(0) - 1;
            for (int what = 0; what < 7; what++) add(x.of(last, what));
        }
    }

    private void useUp() {
        add(x.text());
        add(x.count(2));
        for (int b = 0; b < 7; b++) add(x.of(b, 7));
        add(x.back());
        for (int b = 0; b < 7; b++) {
            add(x.of(b, 0));
            add(x.of(b, 6));
            add(x.load(b));
        }
        add(x.stands(4));
    }
}
