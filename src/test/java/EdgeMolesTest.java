/** The promises 1 to 5: each sentence that names a boundary has a test of its own. */
public final class EdgeMolesTest extends Edges {

    // ---- promise 1

    private static void emptyLawn() {
        busy();
        MolesLawn x = new MolesLawn();
        for (int what = 0; what <= 14; what++) {
            dueCount(x, what, what == 13 ? 6 : 0);
        }
        int[] dues = {0, 0, NONE, 0, 0, 0, NONE, 0, 0};
        for (int t = 0; t < 64; t++) {
            MolesLawn y = t % 32 == 0 ? new MolesLawn() : x;
            x = y;
            for (int what = 0; what <= 8; what++) {
                dueTuft(y, t, what, dues[what]);
            }
        }
        MolesLawn z = new MolesLawn();
        dueShare(z, 0.0);
        due("bestDig()", z.bestDig(), NONE);
        due("nextMound()", z.nextMound(), NONE);
        due("joined(0, 0)", z.joined(0, 0), 0);
        due("ifPassed(30, 0)", z.ifPassed(30, 0), 0);
        refused(Edges::empty, "moleOf(0, 0)", y -> y.moleOf(0, 0), INDEX);
        refused(Edges::empty, "tunnel(0, 0)", y -> y.tunnel(0, 0), INDEX);
        refused(Edges::empty, "undo()", MolesLawn::undo, STATE);
    }

    private static void noSnapshot() {
        busy().keep();
        refused(Edges::empty, "restore()", MolesLawn::restore, STATE);
    }

    private static void emptyBuffer() {
        MolesLawn x = new MolesLawn();
        due("clearBuffer()", x.clearBuffer(), 0);
        due("firstError()", x.firstError(), 0);
        due("append('0')", x.append('0'), 1);
        refused(Edges::empty, "plans()", MolesLawn::plans, ARGUMENT);
    }

    // ---- promise 2

    private static void moleComes() {
        MolesLawn x = new MolesLawn();
        x.mole(0);
        dueTuft(x, 0, 0, 1);
        dueTuft(x, 0, 8, 1);
        dueCount(x, 3, 1);
        dueCount(x, 10, 1);
        x.mole(0);
        due("no second mound comes up there", x.count(10), 1);
        dueCount(x, 3, 1);
        dueTuft(x, 0, 8, 2);
        MolesLawn y = rowOfMounds(1);
        y.mole(1);
        dueTunnels(y, row(0, 1), row(1, 2));
        due("where a mound was raked one comes up again", y.rake(0), 1);
        y.mole(0);
        dueTuft(y, 0, 0, 1);
        // A trap there waits for one who goes there.
        MolesLawn z = new MolesLawn();
        z.trap(5, 0);
        z.mole(5);
        z.pass(1);
        dueCount(z, 1, 1);
        dueTuft(z, 5, 2, 0);
    }

    private static void moleBegins() {
        for (int air : new int[] {2, 6, 20}) {
            MolesLawn x = new MolesLawn();
            x.set(air);
            x.mole(63);
            dueMole(x, 0, 63, air, 0, NONE, 63, 1, 0);
        }
        // Nothing is left of a mole that was caught, nor does it take anything from one who is there.
        MolesLawn y = new MolesLawn();
        y.mole(0);
        y.mole(9);
        walk(y, 1, EAST, EAST);
        y.plan(1, EAST);
        y.dig(11);
        due("mole(9)", y.mole(9), 1);
        dueMole(y, 1, 9, 6, 0, NONE, 9, 1, 0);
        y.plan(0, EAST);
        walk(y, 0, EAST);
        due("mole(2)", y.mole(2), 2);
        dueMole(y, 2, 2, 6, 0, NONE, 2, 1, 0);
        dueMole(y, 0, 1, 5, 1, EAST, 0, 2, 1);
    }

    private static void moleReturns() {
        MolesLawn x = new MolesLawn();
        for (int i = 0; i < 4; i++) {
            due("mole " + i, x.mole(10 * i), i);
        }
        x.dig(20);
        x.dig(0);
        due("mole, behind two", x.mole(40), 2);
        due("mole, behind three", x.mole(40), 3);
    }

    private static void moleAtTheEnds() {
        MolesLawn x = new MolesLawn();
        due("mole(0)", x.mole(0), 0);
        due("mole(63)", x.mole(63), 1);
        due("where it is", x.moleOf(1, 0), 63);
    }

    private static void moleNoTuft() {
        refusedFor(Edges::empty, "mole", MolesLawn::mole, INDEX, -1, 64, LEAST, MOST);
        refusedFor(Edges::busy, "mole", MolesLawn::mole, INDEX, -1, 64);
        refusedFor(Edges::fourMoles, "mole, the fifth,", MolesLawn::mole, INDEX, -1, 64);
    }

    private static MolesLawn roots() {
        MolesLawn x = fourMoles();
        x.root(5, 1);
        x.root(6, 9);
        return x;
    }

    private static MolesLawn rootsAndOneMole() {
        MolesLawn x = new MolesLawn();
        x.mole(0);
        x.root(5, 1);
        x.root(6, 9);
        x.root(0, 2);
        return x;
    }

    private static void moleRefused() {
        refusedFor(Edges::fourMoles, "a fifth mole", MolesLawn::mole, STATE, 0, 63);
        refusedFor(EdgeMolesTest::roots, "a fifth mole at a root", MolesLawn::mole, STATE, 5, 6);
        refusedFor(EdgeMolesTest::rootsAndOneMole, "a mole at a root", MolesLawn::mole, STATE, 0, 5, 6);
        MolesLawn x = rootsAndOneMole();
        due("mole(4) beside a root", x.mole(4), 1);
        x.root(5, 0);
        due("mole(5) where the root is gone", x.mole(5), 2);
        x.dig(6);
        due("mole(6) where the root was dug up", x.mole(6), 3);
    }

    // ---- promise 3

    private static void atTheEndOfAPlan() {
        MolesLawn x = new MolesLawn();
        x.set(20);
        x.mole(0);
        int[] way = {1, 9, 17, 18, 19, 11, 3, 4, 5, 13, 21, 20, 28, 36, 35, 34, 42, 41, 40, 48};
        int here = 0;
        for (int there : way) {
            x.plan(0, there == here + 1 ? EAST : there == here - 1 ? WEST : there > here ? SOUTH : NORTH);
            here = there;
        }
        due("the first of a full plan", x.moleOf(0, 3), EAST);
        for (int i = 0; i < 20; i++) {
            x.pass(1);
            due("where beat " + (i + 1) + " leads", x.moleOf(0, 0), way[i]);
            due("directions left", x.moleOf(0, 2), 19 - i);
        }
        // At the end, when the first one is gone, too.
        MolesLawn y = new MolesLawn();
        y.mole(0);
        y.plan(0, EAST);
        y.plan(0, SOUTH);
        y.pass(1);
        y.plan(0, EAST);
        y.pass(2);
        due("where it is", y.moleOf(0, 0), 10);
    }

    private static void planOfWhom() {
        MolesLawn x = fourMoles();
        due("plan(0, 1)", x.plan(0, EAST), 1);
        due("plan(3, 3)", x.plan(3, WEST), 1);
        for (int i = 0; i < 4; i++) {
            dueMole(x, i, 9 * i, 6, i == 0 || i == 3 ? 1 : 0, i == 0 ? EAST : i == 3 ? WEST : NONE);
        }
    }

    private static void planWhere() {
        int[] there = {19, 28, 35, 26};
        for (int d = 0; d <= 3; d++) {
            MolesLawn x = new MolesLawn();
            x.mole(27);
            due("plan(0, " + d + ")", x.plan(0, d), 1);
            due("moleOf(0, 3)", x.moleOf(0, 3), d);
            x.pass(1);
            due("where it is", x.moleOf(0, 0), there[d]);
        }
    }

    private static void planReturns() {
        MolesLawn x = new MolesLawn();
        x.mole(0);
        for (int i = 1; i <= 20; i++) {
            due("plan(0, 0)", x.plan(0, NORTH), i);
        }
        x.pass(1);
        due("plan(0, 0), when one is taken off", x.plan(0, NORTH), 20);
        x.rest(0);
        due("plan(0, 0), behind a rest", x.plan(0, NORTH), 1);
    }

    private static MolesLawn oneCaught() {
        MolesLawn x = fourMoles();
        x.dig(9);
        return x;
    }

    private static void planNoMole() {
        refusedFor(Edges::empty, "plan, without moles,", (x, m) -> x.plan(m, 0), INDEX, 0, -1, LEAST, MOST);
        refusedFor(Edges::busy, "plan", (x, m) -> x.plan(m, 0), INDEX, 2, -1, 4);
        refusedFor(Edges::busy, "plan, in no direction,", (x, m) -> x.plan(m, 4), INDEX, 2, -1);
        refusedFor(EdgeMolesTest::oneCaught, "plan, when one is caught,", (x, m) -> x.plan(m, 0), INDEX, 3);
        refusedFor(Edges::fullPlan, "plan, beside a full one,", (x, m) -> x.plan(m, 0), INDEX, 1, -1);
    }

    private static void planNoDirection() {
        refusedFor(Edges::busy, "plan in the direction", (x, d) -> x.plan(0, d), ARGUMENT, -1, 4, LEAST, MOST);
        refusedFor(Edges::fullPlan, "plan, full, in the direction", (x, d) -> x.plan(0, d), ARGUMENT, -1, 4);
    }

    private static void planFull() {
        refusedFor(Edges::fullPlan, "plan, full,", (x, d) -> x.plan(0, d), STATE, 0, 1, 2, 3);
        MolesLawn x = fullPlan();
        x.mole(9);
        due("the plan of another", x.plan(1, EAST), 1);
        MolesLawn y = new MolesLawn();
        y.mole(0);
        type(y, "0:nnnnnnnnnnnnnnnnnnn");
        y.plans();
        due("the twentieth", y.plan(0, EAST), 20);
    }

    // ---- promise 4

    private static void emptiesAPlan() {
        MolesLawn x = fullPlan();
        x.mole(9);
        x.plan(1, EAST);
        x.rest(0);
        dueMole(x, 0, 0, 6, 0, NONE, 0, 1, 0);
        dueMole(x, 1, 9, 6, 1, EAST, 9, 1, 0);
        x.pass(30);
        due("it stays where it is", x.moleOf(0, 0), 0);
        // On its way, with a trail.
        MolesLawn y = new MolesLawn();
        y.mole(0);
        type(y, "0:eee");
        y.plans();
        y.pass(2);
        y.rest(0);
        dueMole(y, 0, 2, 4, 0, NONE, 0, 3, 2);
    }

    private static void restOfWhom() {
        MolesLawn x = fourMoles();
        for (int i = 0; i < 4; i++) {
            x.plan(i, EAST);
        }
        due("rest(3)", x.rest(3), 1);
        due("rest(0)", x.rest(0), 1);
        for (int i = 0; i < 4; i++) {
            due("directions of mole " + i, x.moleOf(i, 2), i == 1 || i == 2 ? 1 : 0);
        }
    }

    private static void restReturns() {
        due("rest(0) of a full plan", fullPlan().rest(0), 20);
        MolesLawn x = new MolesLawn();
        x.mole(0);
        due("rest(0) of an empty plan", x.rest(0), 0);
        x.plan(0, EAST);
        due("rest(0)", x.rest(0), 1);
        due("rest(0) again", x.rest(0), 0);
    }

    private static void restNoMole() {
        refusedFor(Edges::empty, "rest, without moles,", MolesLawn::rest, INDEX, 0, -1, LEAST, MOST);
        refusedFor(Edges::busy, "rest", MolesLawn::rest, INDEX, 2, -1, 4);
        refusedFor(EdgeMolesTest::oneCaught, "rest, when one is caught,", MolesLawn::rest, INDEX, 3);
    }

    // ---- promise 5

    private static void beatsPass() {
        MolesLawn x = new MolesLawn();
        x.set(20);
        x.mole(0);
        type(x, "0:eeeeeee");
        x.plans();
        x.trap(63, 20);
        x.pass(1);
        due("where it is behind one beat", x.moleOf(0, 0), 1);
        dueTuft(x, 63, 2, 19);
        dueCount(x, 0, 1);
        x.pass(5);
        due("where it is behind six", x.moleOf(0, 0), 6);
        dueTuft(x, 63, 2, 14);
        dueCount(x, 0, 6);
        x.pass(30);
        due("where its plan ends", x.moleOf(0, 0), 7);
        dueTuft(x, 63, 2, 0);
        dueCount(x, 0, 36);
    }

    private static void passOnAnEmptyLawn() {
        MolesLawn x = new MolesLawn();
        due("pass(1)", x.pass(1), 0);
        dueCount(x, 0, 1);
        due("pass(30)", x.pass(30), 0);
        dueCount(x, 0, 31);
    }

    private static void undoOneCall() {
        undoable(Edges::busy, "pass(1)", x -> x.pass(1));
        undoable(Edges::busy, "pass(30)", x -> x.pass(30));
        MolesLawn x = new MolesLawn();
        x.set(2);
        x.mole(0);
        type(x, "0:eeeeee");
        x.plans();
        due("pass(6)", x.pass(6), 3);
        due("undo() of all beats", x.undo(), 3);
        dueCount(x, 0, 0);
        dueMole(x, 0, 0, 2, 6, EAST, 0, 1, 0);
        dueCount(x, 4, 0);
    }

    private static void passReturns() {
        // The most: each second try, up to the end of the plan.
        MolesLawn x = new MolesLawn();
        x.set(2);
        x.mole(0);
        type(x, "0:eeeeeeesssssssnwwwws");
        x.plans();
        due("pass(1)", x.pass(1), 0);
        due("pass(1)", x.pass(1), 1);
        due("pass(18)", x.pass(18), 9);
        due("pass(30)", x.pass(30), 0);
        // Of two moles in one beat; those that came up before do not count.
        MolesLawn y = new MolesLawn();
        y.set(2);
        y.mole(0);
        y.mole(16);
        type(y, "0:ee;1:ee");
        y.plans();
        due("pass(2)", y.pass(2), 2);
        dueCount(y, 10, 4);
        // None where a mole goes to a mound.
        due("two ways back", backAndForth(y), 0);
    }

    private static int backAndForth(MolesLawn x) {
        type(x, "0:ww;1:ww");
        x.plans();
        return x.pass(4);
    }

    private static void passRefused() {
        refusedFor(Edges::empty, "pass", MolesLawn::pass, ARGUMENT, 0, 31, -1, LEAST, MOST);
        refusedFor(Edges::busy, "pass", MolesLawn::pass, ARGUMENT, 0, 31, -1);
    }

    public static void main(String[] args) {
        promises1And2();
        promises3To5();
        finish();
    }

    private static void promises1And2() {
        part("Promise 1: A new object");
        edge("Creates an empty lawn,", EdgeMolesTest::emptyLawn);
        edge("without a snapshot,", EdgeMolesTest::noSnapshot);
        edge("with an empty buffer.", EdgeMolesTest::emptyBuffer);
        part("Promise 2: mole");
        edge("Lets a mole come at a tuft; a mound comes up there, if there is none.", EdgeMolesTest::moleComes);
        edge("Its trail begins there; its plan is empty, and it has all its air.", EdgeMolesTest::moleBegins);
        edge("Undoable.", () -> {
            undoable(Edges::empty, "mole(0)", x -> x.mole(0));
            undoable(Edges::busy, "mole(1), which splits a tunnel", x -> x.mole(1));
            undoable(Edges::busy, "mole(0), where a mound is", x -> x.mole(0));
        });
        edge("- `tuft`: 0 to 63", EdgeMolesTest::moleAtTheEnds);
        edge("Returns its number.", EdgeMolesTest::moleReturns);
        edge("Throws `IndexOutOfBoundsException` if there is no such tuft", EdgeMolesTest::moleNoTuft);
        edge("Throws `IllegalStateException` if there are 4 moles, or a root is there", EdgeMolesTest::moleRefused);
    }

    private static void promises3To5() {
        part("Promise 3: plan");
        edge("Puts a direction at the end of a plan.", EdgeMolesTest::atTheEndOfAPlan);
        edge("Undoable.", () -> {
            undoable(Edges::busy, "plan(0, 3)", x -> x.plan(0, WEST));
            undoable(EdgeMolesTest::rootsAndOneMole, "plan(0, 2)", x -> x.plan(0, SOUTH));
        });
        edge("- `mole`: its number", EdgeMolesTest::planOfWhom);
        edge("- `direction`: 0 to 3", EdgeMolesTest::planWhere);
        edge("Returns how many there are in it then.", EdgeMolesTest::planReturns);
        edge("Throws `IndexOutOfBoundsException` if there is no such mole", EdgeMolesTest::planNoMole);
        edge("Throws `IllegalArgumentException` if direction is out of range", EdgeMolesTest::planNoDirection);
        edge("Throws `IllegalStateException` if there are 20", EdgeMolesTest::planFull);
        part("Promise 4: rest");
        edge("Empties a plan.", EdgeMolesTest::emptiesAPlan);
        edge("Undoable.", () -> {
            undoable(Edges::busy, "rest(0)", x -> x.rest(0));
            undoable(Edges::fullPlan, "rest(0) of a full plan", x -> x.rest(0));
            undoable(EdgeMolesTest::rootsAndOneMole, "rest(0) of an empty plan", x -> x.rest(0));
        });
        edge("- `mole`: its number", EdgeMolesTest::restOfWhom);
        edge("Returns how many directions there were in it.", EdgeMolesTest::restReturns);
        edge("Throws `IndexOutOfBoundsException` if there is no such mole", EdgeMolesTest::restNoMole);
        part("Promise 5: pass");
        edge("Lets beats pass.", EdgeMolesTest::beatsPass);
        edge("Undoable, as one call.", EdgeMolesTest::undoOneCall);
        edge("- `beats`: 1 to 30", EdgeMolesTest::passOnAnEmptyLawn);
        edge("Returns how many mounds come up in them.", EdgeMolesTest::passReturns);
        edge("Throws `IllegalArgumentException` if beats is out of range", EdgeMolesTest::passRefused);
    }
}
