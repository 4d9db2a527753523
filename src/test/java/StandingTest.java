/** Promises 15 to 18: who stands, who fails and why, tilts. */
final class StandingTest {
    private StandingTest() { }

    static void run() {
        stands();
        crushedAheadOfTips();
        failsNobody();
        failsByLoad();
        failsTellsCauses();
        causesOfLikeParts();
        tilts();
        tiltsOffAnEdge();
        slides();
        most();
        mostBeyondALesserFall();
    }

    private static void dueStands(String name, PileSteadier x, int[] due) {
        for (int what = 0; what < due.length; what++) Check.due("15: " + name + ", " + what, x.stands(what), due[what]);
    }

    private static void stands() {
        dueStands("empty", Scenes.empty(), new int[] {0, 0, 0, 0, 0});
        dueStands("tower", Scenes.tower(), new int[] {0, 0, 0, 15, 15});
        dueStands("tipping", Scenes.tipping(), new int[] {0, 0, 2, 1, 3});
        PileSteadier x = Scenes.tower();
        x.kind(1, 1, 1);
        dueStands("bears just what it has", x, new int[] {0, 0, 0, 15, 15});
        x.weigh(3, 11, 1);
        dueStands("one more crushes", x, new int[] {0, 2, 0, 13, 15});
        Check.due("15: what", x.stands(5), PileSteadier.BAD);
        Check.due("15: what below", x.stands(-1), PileSteadier.BAD);
        PileSteadier edge = new PileSteadier();
        edge.box(0, 0, 0, 111, 1);
        edge.box(0, 0, 0, 211, 1);
        dueStands("on the edge", edge, new int[] {0, 0, 0, 3, 3});
    }

    private static void crushedAheadOfTips() {
        PileSteadier x = Scenes.tipping();
        x.kind(1, 1, 0);
        dueStands("tips without a load", x, new int[] {0, 0, 2, 1, 3});
        x.box(0, 2, 0, 111, 1);
        dueStands("crushed, and its centre outside", x, new int[] {0, 2, 0, 5, 7});
        Check.due("16: crushed ahead of tips", x.fails(1), 2);
    }

    private static void dueFails(String name, PileSteadier x, int[] due) {
        for (int what = 0; what < due.length; what++) Check.due("16: " + name + ", " + what, x.fails(what), due[what]);
    }

    private static void failsNobody() {
        dueFails("empty", Scenes.empty(), new int[] {-1, 0, -1, 0, -1});
        dueFails("tower", Scenes.tower(), new int[] {-1, 0, -1, 0, -1});
        dueFails("nothing on it", Scenes.tipping(), new int[] {1, 3, -1, 0, -1});
        Check.due("16: what", Scenes.tower().fails(5), PileSteadier.BAD);
        Check.due("16: what below", Scenes.tower().fails(-1), PileSteadier.BAD);
    }

    private static void failsByLoad() {
        PileSteadier x = Scenes.tower();
        x.kind(0, 3, 2);
        dueFails("three causes", x, new int[] {0, 2, 1, 3, 3});
        x.kind(2, 1, 0);
        dueFails("the first by numbers", x, new int[] {0, 2, 1, 3, 3});
        x.kind(0, 0, 0);
        dueFails("the other", x, new int[] {2, 2, 3, 1, 3});
    }

    /** On 0 rest 1, by 6, and 2, by 30; on 1 rests 3, on 2 rests 4. */
    private static void failsTellsCauses() {
        PileSteadier x = new PileSteadier();
        x.box(1, 0, 0, 441, 10);
        x.box(0, 0, 0, 221, 5);
        x.box(0, 2, 0, 221, 10);
        x.box(0, 0, 0, 221, 1);
        x.box(0, 2, 0, 221, 20);
        dueFails("greatest part", x, new int[] {0, 2, 2, 2, 4});
        x.weigh(3, 26, 1);
        dueFails("greatest part, the other", x, new int[] {0, 2, 1, 2, 3});
    }

    private static void causesOfLikeParts() {
        PileSteadier x = new PileSteadier();
        x.box(1, 0, 0, 441, 10);
        x.box(0, 2, 0, 221, 7);
        x.box(0, 0, 0, 221, 7);
        dueFails("of like ones the first", x, new int[] {0, 2, 1, 1, 1});
        PileSteadier none = new PileSteadier();
        none.box(0, 0, 0, 111, 1);
        none.box(1, 1, 0, 111, 1);
        none.box(0, 0, 0, 211, 1);
        none.box(0, 1, 0, 111, 1);
        none.box(0, 1, 0, 111, 1);
        // 3 by two: 1 is left over for the first, so that 1 bears 1 of it: too much for it.
        dueFails("with a part of 1", none, new int[] {1, 2, 2, 3, 4});
    }

    /** A crate 2 wide and 2 high has its centre 1 from its edges: by 99 hundredths of 1 it stays. */
    private static void tilts() {
        PileSteadier x = new PileSteadier();
        x.box(0, 0, 0, 124, 10);
        x.kind(0, 5, 0);
        // Along X the centre is 1/2 from the edge, along Y 1; 2 high it moves by twice t.
        for (int side = 0; side < 4; side++) {
            int bears = side < 2 ? 25 : 50;
            Check.due("17: on the edge, side " + side, x.tilt(side, bears), 0);
            Check.due("17: beyond, side " + side, x.tilt(side, bears + 1), 1);
        }
        x.kind(0, 5, 5);
        // A quarter of W less along X: 1/4 from one side, 3/4 from the other.
        Check.due("17: X more by a SAFE", x.tilt(0, 37), 0);
        Check.due("17: X more by a SAFE, beyond", x.tilt(0, 38), 1);
        Check.due("17: X less by a SAFE", x.tilt(1, 12), 0);
        Check.due("17: X less by a SAFE, beyond", x.tilt(1, 13), 1);
        PileSteadier loaded = new PileSteadier();
        loaded.box(5, 0, 0, 222, 10);
        loaded.box(5, 0, 0, 221, 10);
        // 0: (10 times 1 and 10 times 2) by 20 is 3/2: within 1 by t up to 66.
        Check.due("17: with a load", loaded.tilt(2, 66), 0);
        Check.due("17: with a load, beyond", loaded.tilt(3, 67), 1);
        badTilts(x);
    }

    /** A centre on the edge along Y: a tilt to one side takes it in, to the other out. */
    private static void tiltsOffAnEdge() {
        for (int side = 0; side < 4; side++) {
            PileSteadier x = new PileSteadier();
            x.box(0, 1, 1, 111, 1);
            // The upper box stands out of the lower one to the side that is asked.
            int[] at = {1, 0, 1, 0};
            x.box(0, side < 2 ? at[side] : 1, side < 2 ? 1 : at[side], side < 2 ? 211 : 121, 1);
            Check.due("15: on the edge of side " + side, x.stands(3), 3);
            Check.due("16: nobody on the edge fails", x.fails(0), PileSteadier.NONE);
            Check.due("17: out by side " + side, x.tilt(side, 1), 2);
            Check.due("17: in from side " + side, x.tilt(side ^ 1, 1), 0);
            Check.due("18: out by side " + side, x.most(side), 0);
            Check.due("19: on the edge, another one is free", x.box(0, 5, 5, 111, 1), 2);
            Check.due("19: free", x.free() & 4, 4);
            Check.due("22: on the edge", x.without(2), 0);
            Check.due("23: on the edge", x.spot(111, 1, 0), 0);
            Check.due("28: on the edge", x.tells(0, 12), 63);
        }
    }

    private static void badTilts(PileSteadier x) {
        Check.due("17: side", x.tilt(4, 0), PileSteadier.BAD);
        Check.due("17: side below", x.tilt(-1, 0), PileSteadier.BAD);
        Check.due("17: t", x.tilt(0, 100), PileSteadier.BAD);
        Check.due("17: t below", x.tilt(0, -1), PileSteadier.BAD);
        Check.due("17: empty", Scenes.empty().tilt(3, 99), 0);
        Check.due("17: one that tips anyhow", Scenes.tipping().tilt(2, 0), 2);
        Check.due("18: side", x.most(4), PileSteadier.BAD);
        Check.due("18: side below", x.most(-1), PileSteadier.BAD);
    }

    private static void slides() {
        PileSteadier x = new PileSteadier();
        x.box(0, 0, 0, 441, 10);
        int[] grips = {60, 60, 64, 50, 9, 84};
        for (int kind = 0; kind < 6; kind++) {
            x.kind(0, kind, 4);
            Check.due("17: as its grip", x.tilt(0, grips[kind]), 0);
            Check.due("17: above its grip", x.tilt(0, grips[kind] + 1), 1);
            Check.due("18: its grip", x.most(3), grips[kind]);
        }
    }

    private static void most() {
        Check.due("18: nobody there", Scenes.empty().most(0), 99);
        Check.due("18: none", Scenes.tipping().most(2), PileSteadier.NONE);
        PileSteadier x = new PileSteadier();
        x.box(0, 0, 0, 124, 10);
        for (int side = 0; side < 4; side++) Check.due("18: side " + side, x.most(side), side < 2 ? 25 : 50);
        x.box(4, 4, 4, 441, 10);
        Check.due("18: all bear it", x.most(2), 5);
        PileSteadier safe = new PileSteadier();
        safe.box(5, 0, 0, 441, 1);
        safe.kind(0, 5, 9);
        Check.due("18: of a SAFE", safe.most(2), 89);
    }

    /** Its centre is beyond the edge: to one side it comes within by a tilt, to the other never. */
    private static void mostBeyondALesserFall() {
        PileSteadier x = new PileSteadier();
        x.box(0, 0, 0, 331, 10);
        x.box(0, 0, 0, 444, 1);
        x.kind(1, 2, 6);
        Check.due("17: tips", x.tilt(1, 0), 2);
        // Centre at 2 and 6 20ths of 4: 16/5; the edge at 3: 1/5 by 2 high: from 10 on.
        Check.due("17: still tips", x.tilt(1, 9), 2);
        Check.due("17: stands", x.tilt(1, 10), 0);
        Check.due("18: by a greater one", x.most(1), 60);
        Check.due("18: not to the other", x.most(0), PileSteadier.NONE);
    }
}
