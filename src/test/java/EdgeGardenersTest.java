/** The promises 6 to 10: each sentence that names a boundary has a test of its own. */
public final class EdgeGardenersTest extends Edges {

    // ---- promise 6

    private static void plantsARoot() {
        MolesLawn x = new MolesLawn();
        x.root(9, 9);
        x.root(9, 2);
        due("in place of the one there", x.tuft(9, 1), 2);
        dueCount(x, 8, 1);
        x.root(10, 1);
        dueCount(x, 8, 2);
        // At a tuft with a mound, a mole, a trap, that is opened: all these stay, and the mole may go.
        MolesLawn y = new MolesLawn();
        y.dig(9);
        y.mole(9);
        y.trap(9, 5);
        y.root(9, 3);
        due("mound, root, trap", 100 * y.tuft(9, 0) + 10 * y.tuft(9, 1) + y.tuft(9, 2), 135);
        due("opened, moles", 10 * y.tuft(9, 5) + y.tuft(9, 8), 11);
        walk(y, 0, EAST);
        due("where it is", y.moleOf(0, 0), 10);
        walk(y, 0, WEST);
        due("the way back is not free", y.moleOf(0, 0), 10);
        dueTuft(y, 9, 1, 2);
    }

    private static void rootAtTheEnds() {
        MolesLawn x = new MolesLawn();
        due("root(0, 5)", x.root(0, 5), 0);
        due("root(63, 6)", x.root(63, 6), 0);
        due("both", 10 * x.tuft(0, 1) + x.tuft(63, 1), 56);
        dueCount(x, 8, 2);
    }

    private static void strengths() {
        for (int strength = 0; strength <= 9; strength++) {
            MolesLawn x = new MolesLawn();
            due("root(1, " + strength + ")", x.root(1, strength), 0);
            dueTuft(x, 1, 1, strength);
            dueCount(x, 8, strength == 0 ? 0 : 1);
            x.set(20);
            x.mole(0);
            x.plan(0, EAST);
            x.pass(20);
            dueCount(x, 9, strength);
            due("where it is", x.moleOf(0, 0), 1);
        }
        MolesLawn y = new MolesLawn();
        y.root(1, 9);
        due("root(1, 0) takes it away", y.root(1, 0), 9);
        dueTuft(y, 1, 1, 0);
        dueCount(y, 8, 0);
        due("root(1, 0) where none is", y.root(1, 0), 0);
    }

    private static void rootReturns() {
        MolesLawn x = new MolesLawn();
        due("root(1, 9)", x.root(1, 9), 0);
        due("root(1, 1)", x.root(1, 1), 9);
        due("root(1, 4)", x.root(1, 4), 1);
        x.mole(0);
        walk(x, 0, EAST);
        due("root(1, 1), when it was gnawed", x.root(1, 1), 3);
        x.pass(1);
        due("root(1, 2), when it was gnawed through", x.root(1, 2), 0);
        x.dig(1);
        due("root(1, 7), when it was dug up", x.root(1, 7), 0);
        due("root(2, 7), elsewhere", x.root(2, 7), 0);
    }

    private static void rootNoTuft() {
        refusedFor(Edges::busy, "root(.., 3)", (x, t) -> x.root(t, 3), INDEX, -1, 64, LEAST, MOST);
        refusedFor(Edges::empty, "root(.., 0)", (x, t) -> x.root(t, 0), INDEX, -1, 64);
        refusedFor(Edges::busy, "root(.., 10)", (x, t) -> x.root(t, 10), INDEX, -1, 64);
        refusedFor(Edges::busy, "root(.., -1)", (x, t) -> x.root(t, -1), INDEX, -1, 64);
    }

    private static void rootNoStrength() {
        refusedFor(Edges::busy, "root(11, ..), where one is", (x, s) -> x.root(11, s), ARGUMENT, -1, 10, LEAST, MOST);
        refusedFor(Edges::empty, "root(0, ..)", (x, s) -> x.root(0, s), ARGUMENT, -1, 10);
    }

    // ---- promise 7

    private static void laysATrap() {
        // Where a mole is, at its mound: it catches only one who goes there.
        MolesLawn x = new MolesLawn();
        x.mole(0);
        x.root(1, 1);
        due("trap(0, 0)", x.trap(0, 0), 1);
        due("trap(1, 0), at a root", x.trap(1, 0), 2);
        x.pass(1);
        dueCount(x, 1, 1);
        walk(x, 0, SOUTH, NORTH);
        dueCount(x, 1, 0);
        dueCount(x, 2, 1);
        due("mound and root stay", 10 * x.tuft(0, 0) + x.tuft(1, 1), 11);
        // A new one where one was is laid like the first.
        due("trap(0, 20)", x.trap(0, 20), 2);
        dueTuft(x, 0, 2, 20);
        x.dig(0);
        due("trap(0, 1)", x.trap(0, 1), 2);
        dueTuft(x, 0, 2, 1);
    }

    private static void trapAtTheEnds() {
        MolesLawn x = new MolesLawn();
        due("trap(0, 3)", x.trap(0, 3), 1);
        due("trap(63, 4)", x.trap(63, 4), 2);
        due("both", 10 * x.tuft(0, 2) + x.tuft(63, 2), 34);
    }

    // Of a trap with the wait w, a mole that comes in the beat w is caught, one that comes a beat before is not.
    private static void trapWaits() {
        for (int wait = 0; wait <= 20; wait++) {
            for (int before = 0; before <= 1; before++) {
                MolesLawn x = new MolesLawn();
                x.mole(0);
                x.trap(1, wait);
                dueTuft(x, 1, 2, wait);
                int beats = wait - 1 - before;
                if (beats > 0) {
                    x.pass(beats);
                    dueTuft(x, 1, 2, 1 + before);
                }
                walk(x, 0, EAST);
                dueCount(x, 2, wait >= 2 && before == 1 ? 0 : 1);
                dueTuft(x, 1, 2, NONE);
            }
        }
    }

    private static void trapReturns() {
        MolesLawn x = new MolesLawn();
        for (int t = 0; t < 64; t++) {
            due("trap(" + t + ", 0)", x.trap(t, t % 21), t + 1);
        }
        dueCount(x, 7, 64);
        x.dig(63);
        x.dig(0);
        due("trap(63, 20), when two are gone", x.trap(63, 20), 63);
    }

    private static void trapNoTuft() {
        refusedFor(Edges::busy, "trap(.., 3)", (x, t) -> x.trap(t, 3), INDEX, -1, 64, LEAST, MOST);
        refusedFor(Edges::empty, "trap(.., 0)", (x, t) -> x.trap(t, 0), INDEX, -1, 64);
        refusedFor(Edges::busy, "trap(.., 21)", (x, t) -> x.trap(t, 21), INDEX, -1, 64);
        refusedFor(Edges::busy, "trap(.., -1)", (x, t) -> x.trap(t, -1), INDEX, -1, 64);
    }

    private static void trapNoWait() {
        refusedFor(Edges::busy, "trap(0, ..)", (x, w) -> x.trap(0, w), ARGUMENT, -1, 21, LEAST, MOST);
        refusedFor(Edges::busy, "trap(44, ..), where one is,", (x, w) -> x.trap(44, w), ARGUMENT, -1, 21);
    }

    private static MolesLawn twoTraps() {
        MolesLawn x = new MolesLawn();
        x.trap(5, 0);
        x.trap(6, 20);
        return x;
    }

    private static void trapWhereOneIs() {
        refusedFor(EdgeGardenersTest::twoTraps, "trap(5, ..), where a set one is,", (x, w) -> x.trap(5, w), STATE, 0, 20);
        refusedFor(EdgeGardenersTest::twoTraps, "trap(6, ..), where one waits,", (x, w) -> x.trap(6, w), STATE, 0, 20);
        MolesLawn x = twoTraps();
        due("beside it", x.trap(7, 0), 3);
        x.dig(5);
        due("where it was dug up", x.trap(5, 0), 3);
        x.mole(8 + 6);
        x.plan(0, NORTH);
        x.pass(1);
        due("where a mole went into it", x.trap(6, 1), 3);
    }

    // ---- promise 8

    private static void digs() {
        MolesLawn x = new MolesLawn();
        x.dig(63);
        due("an empty tuft", 1000 * x.count(6) + 100 * x.tuft(63, 5) + 10 * x.count(10) + x.count(11), 1100);
        x.dig(63);
        due("again", 1000 * x.count(6) + 100 * x.tuft(63, 5), 1100);
        // All that there can be at one tuft.
        MolesLawn y = rowOfMounds(2);
        y.mole(2);
        y.mole(10);
        y.mole(2);
        y.plan(3, EAST);
        y.pass(1);
        y.root(2, 9);
        y.trap(2, 0);
        due("dig(2)", y.dig(2), 1);
        int[] dues = {0, 0, NONE, 0, 1, 1, 0, 0, 0};
        for (int what = 0; what <= 3; what++) {
            dueTuft(y, 2, what, dues[what]);
        }
        for (int what = 5; what <= 8; what++) {
            dueTuft(y, 2, what, dues[what]);
        }
        dueTunnels(y);
        dueCount(y, 11, 2);
        dueMole(y, 0, 4, 2, 0, NONE, 4, 1, 4);
        dueMole(y, 1, 10, 2, 0, NONE, 10, 1, 0);
        due("who began there has a new mound at 3", y.moleOf(2, 4), 3);
        dueTuft(y, 3, 0, 1);
    }

    private static void digAtTheEnds() {
        MolesLawn x = new MolesLawn();
        x.mole(0);
        x.mole(63);
        due("dig(0)", x.dig(0), 1);
        due("dig(63)", x.dig(63), 1);
        due("opened", 10 * x.tuft(0, 5) + x.tuft(63, 5), 11);
        dueCount(x, 6, 2);
    }

    private static void digReturns() {
        for (int many = 0; many <= 4; many++) {
            MolesLawn x = new MolesLawn();
            for (int i = 0; i < 4; i++) {
                x.mole(i < many ? 27 : 28);
            }
            due("dig(27) with " + many, x.dig(27), many);
            due("dig(27) again", x.dig(27), 0);
            dueCount(x, 1, 4 - many);
            dueCount(x, 2, many);
            due("dig(28): now the others", x.dig(28), 4 - many);
        }
        // Whose trail goes through is not caught.
        MolesLawn y = new MolesLawn();
        y.mole(0);
        walk(y, 0, EAST, EAST);
        due("dig(1)", y.dig(1), 0);
        due("dig(0)", y.dig(0), 0);
        due("dig(2)", y.dig(2), 1);
    }

    private static void digNoTuft() {
        refusedFor(Edges::busy, "dig", MolesLawn::dig, INDEX, -1, 64, LEAST, MOST);
        refusedFor(Edges::empty, "dig", MolesLawn::dig, INDEX, -1, 64);
    }

    // ---- promise 9

    private static void rakes() {
        MolesLawn x = rowOfMounds(2);
        x.rake(2);
        dueTuft(x, 2, 0, 0);
        dueCount(x, 3, 2);
        due("it is hollow, and not opened", 10 * x.tuft(2, 3) + x.tuft(2, 5), 10);
        due("mounds that came up are not less", x.count(10), 3);
        x.rake(0);
        dueTuft(x, 0, 0, 0);
        dueTunnels(x);
        due("the other mound stays", x.tuft(4, 0), 1);
    }

    private static MolesLawn moundsAtTheEnds() {
        MolesLawn x = new MolesLawn();
        x.trap(1, 0);
        x.trap(62, 0);
        x.mole(0);
        x.mole(63);
        type(x, "0:e;1:w");
        x.plans();
        x.pass(1);
        return x;
    }

    private static void rakeAtTheEnds() {
        MolesLawn x = moundsAtTheEnds();
        due("mounds", x.count(3), 2);
        due("rake(0)", x.rake(0), 0);
        due("rake(63)", x.rake(63), 0);
        due("mounds", x.count(3), 0);
    }

    private static void undoOfARake() {
        undoable(EdgeGardenersTest::freshRow, "rake(0), where one falls in", x -> x.rake(0));
        undoable(EdgeGardenersTest::freshRow, "rake(2), where two are put together", x -> x.rake(2));
        undoable(EdgeGardenersTest::freshEmptyMound, "rake(40), of a mound alone", x -> x.rake(40));
    }

    // A row of three mounds with one saved state alone.
    private static MolesLawn freshRow() {
        MolesLawn x = rowOfMounds(2);
        x.keep();
        while (x.count(14) > 0) {
            x.undo();
        }
        x.restore();
        return x;
    }

    private static MolesLawn freshEmptyMound() {
        MolesLawn x = new MolesLawn();
        x.mole(40);
        x.trap(41, 0);
        walk(x, 0, EAST);
        return x;
    }

    private static void rakeReturns() {
        due("no tunnel", freshEmptyMound().rake(40), 0);
        due("one falls in", rowOfMounds(2).rake(0), 1);
        due("two are put together", rowOfMounds(2).rake(2), 1);
        MolesLawn x = rowOfMounds(1);
        walk(x, 0, WEST, WEST);
        due("two fall in", x.rake(2), 2);
        // To and fro: nine between the same two mounds, and one on.
        MolesLawn y = rowOfMounds(1);
        for (int i = 2; i <= 9; i++) {
            walk(y, 0, i % 2 == 0 ? WEST : EAST, i % 2 == 0 ? WEST : EAST);
        }
        walk(y, 0, EAST, EAST);
        dueCount(y, 4, 10);
        due("rake(2)", y.rake(2), 10);
        dueCount(y, 4, 0);
    }

    private static void rakeNoTuft() {
        refusedFor(Edges::busy, "rake", MolesLawn::rake, INDEX, -1, 64, LEAST, MOST);
        refusedFor(Edges::empty, "rake", MolesLawn::rake, INDEX, -1, 64);
    }

    private static MolesLawn twoAtOneMound() {
        MolesLawn x = new MolesLawn();
        x.mole(0);
        x.mole(0);
        walk(x, 0, EAST);
        x.dig(1);
        return x;
    }

    private static MolesLawn oneAway() {
        MolesLawn x = new MolesLawn();
        x.mole(0);
        x.mole(9);
        walk(x, 1, EAST, EAST);
        return x;
    }

    private static void rakeRefused() {
        refusedFor(Edges::empty, "rake, without mounds,", MolesLawn::rake, STATE, 0, 63);
        refusedFor(() -> rowOfMounds(1), "rake, without a mound there,", MolesLawn::rake, STATE, 1, 3);
        refusedFor(() -> rowOfMounds(1), "rake, where a mole is,", MolesLawn::rake, STATE, 2);
        refusedFor(EdgeGardenersTest::oneAway, "rake, where a mole came from,", MolesLawn::rake, STATE, 0, 9);
        refusedFor(EdgeGardenersTest::oneAway, "rake, where a mole is without a mound,", MolesLawn::rake, STATE, 11);
        refusedFor(EdgeGardenersTest::twoAtOneMound, "rake, where one of two is left,", MolesLawn::rake, STATE, 0);
        MolesLawn x = oneAway();
        x.dig(11);
        due("rake(9), when its mole is caught", x.rake(9), 0);
        refused(EdgeGardenersTest::rakedOnce, "rake(0) again", y -> y.rake(0), STATE);
    }

    private static MolesLawn rakedOnce() {
        MolesLawn x = rowOfMounds(2);
        x.rake(0);
        return x;
    }

    // ---- promise 10

    private static void changesTheSetting() {
        for (int air = 2; air <= 20; air++) {
            MolesLawn x = new MolesLawn();
            x.mole(0);
            x.set(air);
            dueCount(x, 13, air);
            due("the air of one who is there", x.moleOf(0, 1), air < 6 ? air : 6);
            x.mole(0);
            due("the air of one who comes", x.moleOf(1, 1), air);
            walk(x, 0, EAST, WEST);
            due("new air, at a mound", x.moleOf(0, 1), air);
        }
        // It holds for the snapshot's and the saved states' lawns as each was.
        MolesLawn y = new MolesLawn();
        y.keep();
        y.set(20);
        y.restore();
        dueCount(y, 13, 6);
        y.undo();
        dueCount(y, 13, 20);
        y.undo();
        dueCount(y, 13, 6);
    }

    private static void setAtTheEnds() {
        MolesLawn x = new MolesLawn();
        due("set(2)", x.set(2), 6);
        dueCount(x, 13, 2);
        due("set(20)", x.set(20), 2);
        dueCount(x, 13, 20);
        x.mole(0);
        type(x, "0:eeeeeeesssssssnwwwws");
        x.plans();
        due("mounds in 19 beats with the air 20", x.pass(19), 0);
        due("mounds in the 20th", x.pass(1), 1);
    }

    private static void setReturns() {
        MolesLawn x = new MolesLawn();
        due("set(3)", x.set(3), 6);
        due("set(3)", x.set(3), 3);
        due("set(20)", x.set(20), 3);
        due("undo()", x.undo(), 2);
        due("set(2), when 20 is undone", x.set(2), 3);
    }

    private static void setRefused() {
        refusedFor(Edges::busy, "set", MolesLawn::set, ARGUMENT, 1, 21, 0, -1, LEAST, MOST);
        refusedFor(Edges::empty, "set", MolesLawn::set, ARGUMENT, 1, 21);
    }

    public static void main(String[] args) {
        promises6And7();
        promises8To10();
        finish();
    }

    private static void promises6And7() {
        part("Promise 6: root");
        edge("Plants a root, in place of the one that is there.", EdgeGardenersTest::plantsARoot);
        edge("Undoable.", () -> {
            undoable(Edges::busy, "root(0, 9)", x -> x.root(0, 9));
            undoable(Edges::busy, "root(11, 0), where one is", x -> x.root(11, 0));
            undoable(Edges::busy, "root(0, 0), where none is", x -> x.root(0, 0));
        });
        edge("- `tuft`: 0 to 63", EdgeGardenersTest::rootAtTheEnds);
        edge("- `strength`: 0 to 9; 0 for none", EdgeGardenersTest::strengths);
        edge("Returns the strength of the one before, 0 if there was none.", EdgeGardenersTest::rootReturns);
        edge("Throws `IndexOutOfBoundsException` if there is no such tuft", EdgeGardenersTest::rootNoTuft);
        edge("Throws `IllegalArgumentException` if strength is out of range", EdgeGardenersTest::rootNoStrength);
        part("Promise 7: trap");
        edge("Lays a trap.", EdgeGardenersTest::laysATrap);
        edge("Undoable.", () -> {
            undoable(Edges::busy, "trap(19, 0), where a mole is", x -> x.trap(19, 0));
            undoable(Edges::empty, "trap(63, 20)", x -> x.trap(63, 20));
        });
        edge("- `tuft`: 0 to 63", EdgeGardenersTest::trapAtTheEnds);
        edge("- `wait`: 0 to 20", EdgeGardenersTest::trapWaits);
        edge("Returns how many traps there are then.", EdgeGardenersTest::trapReturns);
        edge("Throws `IndexOutOfBoundsException` if there is no such tuft", EdgeGardenersTest::trapNoTuft);
        edge("Throws `IllegalArgumentException` if wait is out of range", EdgeGardenersTest::trapNoWait);
        edge("Throws `IllegalStateException` if a trap is there", EdgeGardenersTest::trapWhereOneIs);
    }

    private static void promises8To10() {
        part("Promise 8: dig");
        edge("Digs.", EdgeGardenersTest::digs);
        edge("Undoable.", () -> {
            undoable(Edges::busy, "dig(19), where a mole is", x -> x.dig(19));
            undoable(Edges::busy, "dig(4), where two tunnels end", x -> x.dig(4));
            undoable(Edges::busy, "dig(20), where a trail begins", x -> x.dig(20));
            undoable(Edges::busy, "dig(11), at a root", x -> x.dig(11));
            undoable(Edges::busy, "dig(44), at a trap", x -> x.dig(44));
            undoable(Edges::busy, "dig(33), where one was opened", x -> x.dig(33));
        });
        edge("- `tuft`: 0 to 63", EdgeGardenersTest::digAtTheEnds);
        edge("Returns how many moles are caught.", EdgeGardenersTest::digReturns);
        edge("Throws `IndexOutOfBoundsException` if there is no such tuft", EdgeGardenersTest::digNoTuft);
        part("Promise 9: rake");
        edge("Rakes a mound.", EdgeGardenersTest::rakes);
        edge("Undoable.", EdgeGardenersTest::undoOfARake);
        edge("- `tuft`: 0 to 63", EdgeGardenersTest::rakeAtTheEnds);
        edge("Returns how many tunnels are less then.", EdgeGardenersTest::rakeReturns);
        edge("Throws `IndexOutOfBoundsException` if there is no such tuft", EdgeGardenersTest::rakeNoTuft);
        edge("Throws `IllegalStateException` if there is no mound, or a trail begins there",
                EdgeGardenersTest::rakeRefused);
        part("Promise 10: set");
        edge("Changes the setting 0.", EdgeGardenersTest::changesTheSetting);
        edge("Undoable.", () -> {
            undoable(Edges::busy, "set(2)", x -> x.set(2));
            undoable(Edges::busy, "set(20)", x -> x.set(20));
            undoable(Edges::busy, "set(4) again", x -> x.set(4));
        });
        edge("- `air`: 2 to 20", EdgeGardenersTest::setAtTheEnds);
        edge("Returns the previous setting.", EdgeGardenersTest::setReturns);
        edge("Throws `IllegalArgumentException` if air is out of range", EdgeGardenersTest::setRefused);
    }
}
