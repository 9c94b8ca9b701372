import java.util.ArrayList;
import java.util.List;
import java.util.function.LongSupplier;

/** For each promise: ordinary calls, the edges that the document names, and wrong inputs. Answers worked out by hand. */
public final class PromiseTest {
    private static final int NORTH = 0;
    private static final int EAST = 1;
    private static final int SOUTH = 2;
    private static final int WEST = 3;
    private static final Class<?> INDEX = IndexOutOfBoundsException.class;
    private static final Class<?> ARGUMENT = IllegalArgumentException.class;
    private static final Class<?> STATE = IllegalStateException.class;

    private static int wrong = 0;
    private static int promise = 0;

    private static void due(String call, long got, long want) {
        if (got != want) {
            wrong++;
            System.out.println("promise " + promise + ": " + call + " answered " + got + ", due is " + want);
        }
    }

    private static void dueThrow(String call, LongSupplier made, Class<?> want) {
        String got;
        try {
            got = "answered " + made.getAsLong();
        } catch (RuntimeException e) {
            if (e.getClass() == want) {
                return;
            }
            got = "threw " + e.getClass().getSimpleName();
        }
        wrong++;
        System.out.println("promise " + promise + ": " + call + " " + got + ", due is " + want.getSimpleName());
    }

    // The call throws, and changes nothing, no saved state either.
    private static void dueThrow(MolesLawn x, String call, LongSupplier made, Class<?> want) {
        long before = x.digest();
        dueThrow(call, made, want);
        due(call + " must change nothing", x.digest() == before ? 1 : 0, 1);
    }

    // The call is undoable: it saves one state (six at most), and undo brings back all but the number of these.
    private static void dueUndoable(MolesLawn x, String call, LongSupplier made) {
        int saved = x.count(14);
        String before = saved < 6 ? Long.toString(x.digest()) : told(x);
        made.getAsLong();
        due(call + " saves a state", x.count(14), Math.min(6, saved + 1));
        due("undo() of " + call, x.undo(), Math.min(5, saved));
        String behind = saved < 6 ? Long.toString(x.digest()) : told(x);
        due("undo() of " + call + " brings all back", behind.equals(before) ? 1 : 0, 1);
    }

    // Much of the state, but the number of saved states and the buffer, by not too many calls.
    private static String told(MolesLawn x) {
        StringBuilder text = new StringBuilder();
        for (int what = 0; what <= 13; what++) {
            text.append(x.count(what)).append(' ');
        }
        for (int i = 0; i < x.count(1); i++) {
            for (int what = 0; what <= 6; what++) {
                text.append(x.moleOf(i, what)).append(' ');
            }
        }
        for (int k = 0; k < x.count(4); k++) {
            for (int place = 0; x.cell(k, place) != MolesLawn.NONE; place++) {
                text.append(x.cell(k, place)).append(' ');
            }
            text.append("; ");
        }
        return text.append(x.ifPassed(30, 0)).append(' ').append(x.ifPassed(30, 1)).toString();
    }

    private static void dueTunnel(MolesLawn x, int tunnel, int... tufts) {
        due("tunnel(" + tunnel + ", 2)", x.tunnel(tunnel, 2), tufts.length);
        for (int i = 0; i < tufts.length; i++) {
            due("cell(" + tunnel + ", " + i + ")", x.cell(tunnel, i), tufts[i]);
        }
        due("cell behind tunnel " + tunnel, x.cell(tunnel, tufts.length), -1);
    }

    private static void dueMole(MolesLawn x, int mole, int... numbers) {
        for (int what = 0; what < numbers.length; what++) {
            due("moleOf(" + mole + ", " + what + ")", x.moleOf(mole, what), numbers[what]);
        }
    }

    private static void type(MolesLawn x, String text) {
        for (int i = 0; i < text.length(); i++) {
            x.append(text.charAt(i));
        }
    }

    // Puts the directions to the plan, and lets as many beats pass.
    private static int walk(MolesLawn x, int mole, int... directions) {
        for (int direction : directions) {
            x.plan(mole, direction);
        }
        return x.pass(directions.length);
    }

    // A row of mounds 0, 2, 4, .., with a tunnel from each to the next, made by one mole with the air 2.
    private static MolesLawn rowOfMounds(int tunnels) {
        MolesLawn x = new MolesLawn();
        x.set(2);
        x.mole(0);
        for (int i = 0; i < tunnels; i++) {
            walk(x, 0, EAST, EAST);
        }
        return x;
    }

    // ---- the promises

    private static void promise1NewObject() {
        MolesLawn x = new MolesLawn();
        for (int what = 0; what <= 14; what++) {
            due("count(" + what + ")", x.count(what), what == 13 ? 6 : 0);
        }
        for (int t = 0; t < 64; t++) {
            MolesLawn y = new MolesLawn();
            for (int what = 0; what <= 8; what++) {
                due("tuft(" + t + ", " + what + ")", y.tuft(t, what), what == 2 || what == 6 ? -1 : 0);
            }
        }
        due("firstError()", x.firstError(), 0);
        due("clearBuffer()", x.clearBuffer(), 0);
        dueThrow("restore()", x::restore, STATE);
        dueThrow("undo()", x::undo, STATE);
        due("NONE", MolesLawn.NONE, -1);
        MolesLawn other = new MolesLawn();
        other.mole(5);
        due("count(1) of another object", x.count(1), 0);
    }

    private static void promise2Mole() {
        MolesLawn x = new MolesLawn();
        due("mole(9)", x.mole(9), 0);
        dueMole(x, 0, 9, 6, 0, -1, 9, 1, 0);
        due("count(10)", x.count(10), 1);
        due("tuft(9, 0)", x.tuft(9, 0), 1);
        due("mole(9) again", x.mole(9), 1);
        due("no second mound", x.count(10), 1);
        due("tuft(9, 8)", x.tuft(9, 8), 2);
        dueUndoable(x, "mole(0)", () -> x.mole(0));
        dueThrow(x, "mole(-1)", () -> x.mole(-1), INDEX);
        dueThrow(x, "mole(64)", () -> x.mole(64), INDEX);
        x.root(20, 1);
        dueThrow(x, "mole(20) at a root", () -> x.mole(20), STATE);
        x.trap(63, 0);
        due("mole(63) beside a set trap", x.mole(63), 2);
        due("the trap stays", x.tuft(63, 2), 0);
        due("mole(0)", x.mole(0), 3);
        dueThrow(x, "a fifth mole", () -> x.mole(1), STATE);
        dueThrow(x, "a fifth mole at no tuft", () -> x.mole(64), INDEX);
        promise2SplitsByItsMound();
    }

    private static void promise2SplitsByItsMound() {
        MolesLawn x = new MolesLawn();
        x.set(4);
        x.mole(0);
        x.mole(0);
        walk(x, 0, EAST, EAST, EAST, EAST);
        walk(x, 1, EAST, EAST, SOUTH);
        dueTunnel(x, 0, 0, 1, 2, 3, 4);
        due("mole(2)", x.mole(2), 2);
        due("count(4)", x.count(4), 3);
        dueTunnel(x, 0, 0, 1, 2);
        dueTunnel(x, 1, 2, 3, 4);
        dueTunnel(x, 2, 0, 1, 2);
        dueMole(x, 1, 10, 1, 0, -1, 2, 2, 3);
        dueMole(x, 2, 2, 4, 0, -1, 2, 1, 0);
    }

    private static void promise3Plan() {
        MolesLawn x = new MolesLawn();
        dueThrow(x, "plan(0, 0) without moles", () -> x.plan(0, 0), INDEX);
        dueThrow(x, "plan(0, 4) without moles", () -> x.plan(0, 4), INDEX);
        x.mole(0);
        due("plan(0, 2)", x.plan(0, SOUTH), 1);
        due("plan(0, 1)", x.plan(0, EAST), 2);
        due("the first direction", x.moleOf(0, 3), SOUTH);
        dueThrow(x, "plan(0, 4)", () -> x.plan(0, 4), ARGUMENT);
        dueThrow(x, "plan(0, -1)", () -> x.plan(0, -1), ARGUMENT);
        dueThrow(x, "plan(1, 0)", () -> x.plan(1, 0), INDEX);
        dueThrow(x, "plan(-1, -1)", () -> x.plan(-1, -1), INDEX);
        dueUndoable(x, "plan(0, 3)", () -> x.plan(0, WEST));
        for (int i = 3; i <= 20; i++) {
            due("plan(0, 0)", x.plan(0, NORTH), i);
        }
        dueThrow(x, "plan(0, 0) of a full plan", () -> x.plan(0, 0), STATE);
        dueThrow(x, "plan(0, 4) of a full plan", () -> x.plan(0, 4), ARGUMENT);
    }

    private static void promise4Rest() {
        MolesLawn x = new MolesLawn();
        dueThrow(x, "rest(0)", () -> x.rest(0), INDEX);
        x.mole(0);
        x.mole(9);
        due("rest(0) of an empty plan", x.rest(0), 0);
        due("it saves a state all the same", x.count(14), 3);
        x.plan(1, EAST);
        x.plan(1, EAST);
        x.plan(0, EAST);
        dueUndoable(x, "rest(1)", () -> x.rest(1));
        due("rest(1)", x.rest(1), 2);
        due("moleOf(1, 2)", x.moleOf(1, 2), 0);
        due("moleOf(1, 3)", x.moleOf(1, 3), -1);
        due("moleOf(0, 2)", x.moleOf(0, 2), 1);
        dueThrow(x, "rest(2)", () -> x.rest(2), INDEX);
        dueThrow(x, "rest(-1)", () -> x.rest(-1), INDEX);
    }

    private static void promise5Pass() {
        MolesLawn x = new MolesLawn();
        dueThrow(x, "pass(0)", () -> x.pass(0), ARGUMENT);
        dueThrow(x, "pass(31)", () -> x.pass(31), ARGUMENT);
        dueThrow(x, "pass(-1)", () -> x.pass(-1), ARGUMENT);
        due("pass(30)", x.pass(30), 0);
        due("count(0)", x.count(0), 30);
        x.mole(9);
        for (int i = 0; i < 6; i++) {
            x.plan(0, EAST);
        }
        x.plan(0, SOUTH);
        dueUndoable(x, "pass(7)", () -> x.pass(7));
        due("pass(5)", x.pass(5), 0);
        dueMole(x, 0, 14, 1, 2, EAST, 9, 6, 5);
        due("pass(1)", x.pass(1), 1);
        dueMole(x, 0, 15, 6, 1, SOUTH, 15, 1, 6);
        dueTunnel(x, 0, 9, 10, 11, 12, 13, 14, 15);
        due("count(10)", x.count(10), 2);
    }

    private static void promise5BeyondTheLawn() {
        MolesLawn x = new MolesLawn();
        x.mole(0);
        x.mole(63);
        for (int mole = 0; mole < 2; mole++) {
            x.plan(mole, mole == 0 ? NORTH : SOUTH);
            x.plan(mole, mole == 0 ? WEST : EAST);
            x.plan(mole, mole == 0 ? EAST : WEST);
        }
        x.pass(2);
        dueMole(x, 0, 0, 6, 1, EAST, 0, 1, 0);
        dueMole(x, 1, 63, 6, 1, WEST, 63, 1, 0);
        x.pass(1);
        dueMole(x, 0, 1, 5, 0, -1, 0, 2, 1);
        dueMole(x, 1, 62, 5, 0, -1, 63, 2, 1);
        x.pass(5);
        dueMole(x, 0, 1, 5, 0, -1, 0, 2, 1);
        MolesLawn y = new MolesLawn();
        y.mole(7);
        y.mole(8);
        walk(y, 0, EAST);
        walk(y, 1, WEST);
        due("no way from column 7 to column 0", y.moleOf(0, 0), 7);
        due("no way from column 0 to column 7", y.moleOf(1, 0), 8);
    }

    private static void promise5FinishedTrails() {
        MolesLawn x = new MolesLawn();
        x.mole(0);
        x.mole(2);
        due("a mole goes to another mound", walk(x, 0, EAST, EAST), 0);
        dueMole(x, 0, 2, 6, 0, -1, 2, 1, 2);
        dueTunnel(x, 0, 0, 1, 2);
        walk(x, 1, SOUTH, WEST, NORTH, EAST);
        due("a trail back to its own mound makes no tunnel", x.count(4), 1);
        dueMole(x, 1, 2, 6, 0, -1, 2, 1, 4);
        due("tuft(9, 3)", x.tuft(9, 3), 0);
    }

    // The tuft where the mound comes up was on the trail already: the tunnel ends at its first occurrence.
    private static void promise5OwnTrailCrossed() {
        MolesLawn x = new MolesLawn();
        x.set(6);
        x.mole(0);
        due("mounds", walk(x, 0, EAST, EAST, SOUTH, WEST, NORTH, EAST), 1);
        dueTunnel(x, 0, 0, 1, 2);
        due("count(4)", x.count(4), 1);
        dueMole(x, 0, 2, 6, 0, -1, 2, 1, 6);
        due("the loop is not hollow any more", x.tuft(10, 3) + x.tuft(9, 3), 0);
        due("count(5)", x.count(5), 3);
    }

    private static void promise5MoundSplitsTunnelsAndTrails() {
        MolesLawn x = new MolesLawn();
        x.set(8);
        x.mole(0);
        // 0 1 2 10 9 1 2 3 4: the tufts 1 and 2 twice.
        walk(x, 0, EAST, EAST, SOUTH, WEST, NORTH, EAST, EAST, EAST);
        dueTunnel(x, 0, 0, 1, 2, 10, 9, 1, 2, 3, 4);
        x.mole(16);
        x.mole(3 + 8);
        x.set(2);
        // mole 1: 16 17, mole 2: 11 10, and its mound comes up at 2, the second step.
        x.plan(1, EAST);
        x.plan(2, WEST);
        x.plan(2, NORTH);
        x.pass(1);
        due("a mound at 2", x.pass(1), 1);
        dueTunnel(x, 0, 0, 1, 2);
        dueTunnel(x, 1, 2, 3, 4);
        dueTunnel(x, 2, 11, 10, 2);
        due("count(4)", x.count(4), 3);
        dueMole(x, 1, 17, 1, 0, -1, 16, 2, 1);
        dueMole(x, 2, 2, 2, 0, -1, 2, 1, 2);
    }

    private static void promise5MoundSplitsOtherTrails() {
        MolesLawn x = new MolesLawn();
        x.set(2);
        x.mole(2);
        x.set(20);
        x.mole(8);
        x.mole(8);
        walk(x, 1, EAST, SOUTH, NORTH, EAST);
        walk(x, 2, EAST, SOUTH);
        // Mole 1: 8 9 17 9 10, mole 2: 8 9 17; mole 0 has the air for two steps, to 9.
        due("a mound at 9", walk(x, 0, WEST, SOUTH), 1);
        dueTunnel(x, 0, 2, 1, 9);
        dueTunnel(x, 1, 8, 9);
        dueTunnel(x, 2, 8, 9);
        due("count(4)", x.count(4), 3);
        dueMole(x, 0, 9, 20, 0, -1, 9, 1, 2);
        dueMole(x, 1, 10, 16, 0, -1, 9, 2, 4);
        dueMole(x, 2, 17, 18, 0, -1, 9, 2, 2);
        due("count(5)", x.count(5), 6);
    }

    private static void promise5Roots() {
        MolesLawn x = new MolesLawn();
        x.set(4);
        x.mole(0);
        x.root(1, 2);
        x.plan(0, EAST);
        x.plan(0, EAST);
        x.pass(1);
        due("the root is weaker", x.tuft(1, 1), 1);
        dueMole(x, 0, 0, 3, 2, EAST, 0, 1, 0);
        x.pass(1);
        due("the root is gone", x.tuft(1, 1), 0);
        due("count(8)", x.count(8), 0);
        due("count(9)", x.count(9), 2);
        dueMole(x, 0, 0, 2, 2, EAST, 0, 1, 0);
        x.pass(1);
        dueMole(x, 0, 1, 1, 1, EAST, 0, 2, 1);
        x.root(2, 9);
        due("a mound by gnawing, not at the root", x.pass(1), 1);
        dueMole(x, 0, 1, 4, 1, EAST, 1, 1, 1);
        due("tuft(2, 1)", x.tuft(2, 1), 8);
        dueTunnel(x, 0, 0, 1);
        due("at a mound no new one comes up", x.pass(4), 0);
        dueMole(x, 0, 1, 4, 1, EAST, 1, 1, 1);
        due("tuft(2, 1)", x.tuft(2, 1), 4);
        due("pass(4)", x.pass(4), 0);
        due("tuft(2, 1)", x.tuft(2, 1), 0);
        due("count(9)", x.count(9), 11);
        x.pass(1);
        dueMole(x, 0, 2, 3, 0, -1, 1, 2, 2);
    }

    private static void promise5Traps() {
        MolesLawn x = new MolesLawn();
        x.mole(0);
        x.mole(16);
        x.mole(32);
        x.trap(1, 0);
        x.trap(17, 1);
        x.trap(33, 2);
        for (int mole = 0; mole < 3; mole++) {
            x.plan(mole, EAST);
            x.plan(mole, SOUTH);
        }
        due("pass(1)", x.pass(1), 0);
        due("two are caught", x.count(2), 2);
        due("count(1)", x.count(1), 1);
        due("count(7): the third trap is gone too", x.count(7), 0);
        dueMole(x, 0, 33, 5, 1, SOUTH, 32, 2, 1);
        due("the mounds of the caught stay", x.tuft(0, 0) + x.tuft(16, 0), 2);
        due("their trails do not", x.tuft(0, 3) + x.tuft(1, 3) + x.tuft(16, 3) + x.tuft(17, 3), 0);
        MolesLawn y = new MolesLawn();
        y.mole(0);
        y.trap(1, 2);
        y.trap(5, 0);
        y.pass(1);
        due("the wait", y.tuft(1, 2), 1);
        y.pass(1);
        due("the wait", y.tuft(1, 2), 0);
        y.pass(1);
        due("the wait", y.tuft(1, 2), 0);
        due("tuft(5, 2)", y.tuft(5, 2), 0);
        // A mound with a set trap: the mole is caught, and there is no tunnel by it.
        y.mole(5);
        y.rest(1);
        y.plan(0, EAST);
        y.pass(1);
        due("caught", y.count(2), 1);
        dueMole(y, 0, 5, 6, 0, -1, 5, 1, 0);
        y.mole(3);
        walk(y, 1, EAST, EAST);
        due("count(4)", y.count(4), 0);
        due("count(2)", y.count(2), 2);
        due("a mole less", y.count(1), 1);
    }

    // The moles behind a caught one have their turn in the same beat.
    private static void promise5TurnsBehindACaughtMole() {
        MolesLawn x = new MolesLawn();
        x.mole(0);
        x.mole(16);
        x.mole(32);
        x.mole(48);
        x.trap(1, 0);
        x.trap(33, 0);
        for (int mole = 0; mole < 4; mole++) {
            x.plan(mole, EAST);
            x.plan(mole, EAST);
        }
        x.pass(1);
        due("count(1)", x.count(1), 2);
        dueMole(x, 0, 17, 5, 1, EAST, 16, 2, 1);
        dueMole(x, 1, 49, 5, 1, EAST, 48, 2, 1);
    }

    private static void promise6Root() {
        MolesLawn x = new MolesLawn();
        due("root(0, 9)", x.root(0, 9), 0);
        due("root(0, 1)", x.root(0, 1), 9);
        due("count(8)", x.count(8), 1);
        dueUndoable(x, "root(0, 4)", () -> x.root(0, 4));
        due("root(0, 0)", x.root(0, 0), 1);
        due("count(8)", x.count(8), 0);
        due("root(63, 0)", x.root(63, 0), 0);
        due("count(14)", x.count(14), 4);
        dueThrow(x, "root(64, 1)", () -> x.root(64, 1), INDEX);
        dueThrow(x, "root(-1, 10)", () -> x.root(-1, 10), INDEX);
        dueThrow(x, "root(0, 10)", () -> x.root(0, 10), ARGUMENT);
        dueThrow(x, "root(0, -1)", () -> x.root(0, -1), ARGUMENT);
        x.mole(5);
        due("a root where a mole is", x.root(5, 3), 0);
        walk(x, 0, EAST);
        due("it may go away from there", x.moleOf(0, 0), 6);
    }

    private static void promise7Trap() {
        MolesLawn x = new MolesLawn();
        due("trap(0, 0)", x.trap(0, 0), 1);
        due("trap(63, 20)", x.trap(63, 20), 2);
        due("tuft(63, 2)", x.tuft(63, 2), 20);
        dueUndoable(x, "trap(1, 1)", () -> x.trap(1, 1));
        dueThrow(x, "trap(0, 3) where one is", () -> x.trap(0, 3), STATE);
        dueThrow(x, "trap(0, 21) where one is", () -> x.trap(0, 21), ARGUMENT);
        dueThrow(x, "trap(0, -1)", () -> x.trap(0, -1), ARGUMENT);
        dueThrow(x, "trap(1, 21)", () -> x.trap(1, 21), ARGUMENT);
        dueThrow(x, "trap(64, 21)", () -> x.trap(64, 21), INDEX);
        dueThrow(x, "trap(-1, 0)", () -> x.trap(-1, 0), INDEX);
        x.mole(5);
        due("a trap where a mole is", x.trap(5, 0), 3);
        x.pass(1);
        due("it catches only who goes there", x.count(2), 0);
    }

    private static void promise8Dig() {
        MolesLawn x = rowOfMounds(2);
        x.root(1, 2);
        x.trap(1, 2);
        dueUndoable(x, "dig(1)", () -> x.dig(1));
        due("dig(1)", x.dig(1), 0);
        due("root", x.tuft(1, 1), 0);
        due("trap", x.tuft(1, 2), -1);
        due("opened", x.tuft(1, 5), 1);
        due("count(11)", x.count(11), 1);
        dueTunnel(x, 0, 2, 3, 4);
        due("the mound 0 stays", x.tuft(0, 0), 1);
        due("dig(4) catches", x.dig(4), 1);
        due("count(2)", x.count(2), 1);
        due("count(1)", x.count(1), 0);
        due("the mound 4 is gone", x.tuft(4, 0), 0);
        due("count(4)", x.count(4), 0);
        due("count(11)", x.count(11), 2);
        due("dig(4) again", x.dig(4), 0);
        due("count(6)", x.count(6), 2);
        dueThrow(x, "dig(64)", () -> x.dig(64), INDEX);
        dueThrow(x, "dig(-1)", () -> x.dig(-1), INDEX);
    }

    private static void promise8Trails() {
        MolesLawn x = new MolesLawn();
        x.mole(0);
        x.mole(8);
        x.mole(0);
        x.mole(16);
        walk(x, 0, EAST, EAST);
        walk(x, 1, EAST, EAST);
        walk(x, 2, EAST, EAST);
        x.plan(0, WEST);
        // The moles 0 and 2 are at 2, mole 1 is at 10, and mole 3 at 16; the trails of 0 and 2 fall at 1.
        due("dig(1)", x.dig(1), 0);
        dueMole(x, 0, 2, 6, 1, WEST, 2, 1, 2);
        dueMole(x, 2, 2, 6, 0, -1, 2, 1, 2);
        dueMole(x, 1, 10, 4, 0, -1, 8, 3, 2);
        due("one mound for both", x.count(10), 4);
        due("count(4)", x.count(4), 0);
        due("count(3)", x.count(3), 4);
    }

    private static void promise8NewMoundsSplitTheOthers() {
        MolesLawn x = new MolesLawn();
        x.mole(0);
        x.mole(16);
        walk(x, 0, EAST, EAST, SOUTH);
        walk(x, 1, EAST, NORTH, EAST, EAST);
        dueMole(x, 0, 10, 3, 0, -1, 0, 4, 3);
        dueMole(x, 1, 11, 2, 0, -1, 16, 5, 4);
        due("dig(0): the mole at 10 has a mound there, which splits the other's trail", x.dig(0), 0);
        due("tuft(0, 0)", x.tuft(0, 0), 0);
        due("tuft(10, 0)", x.tuft(10, 0), 1);
        dueTunnel(x, 0, 16, 17, 9, 10);
        due("count(4)", x.count(4), 1);
        dueMole(x, 0, 10, 6, 0, -1, 10, 1, 3);
        dueMole(x, 1, 11, 2, 0, -1, 10, 2, 4);
        due("count(10)", x.count(10), 3);
        due("count(11)", x.count(11), 0);
    }

    // Two trails that cross fall both: neither is split by the other's mound.
    private static void promise8BothTrailsFall() {
        MolesLawn x = new MolesLawn();
        x.mole(0);
        x.mole(0);
        walk(x, 0, EAST, EAST);
        walk(x, 1, EAST, EAST, EAST);
        x.trap(0, 3);
        due("dig(1)", x.dig(1), 0);
        due("no tunnels", x.count(4), 0);
        dueMole(x, 0, 2, 6, 0, -1, 2, 1, 2);
        dueMole(x, 1, 3, 6, 0, -1, 3, 1, 3);
        due("hollow", x.count(5), 2);
        due("mounds", x.count(3), 3);
        due("the trap elsewhere stays", x.tuft(0, 2), 3);
    }

    private static void promise8CatchesSome() {
        MolesLawn x = new MolesLawn();
        x.mole(9);
        x.mole(20);
        x.mole(9);
        x.mole(30);
        x.plan(3, EAST);
        due("dig(9)", x.dig(9), 2);
        due("count(1)", x.count(1), 2);
        dueMole(x, 0, 20, 6, 0, -1, 20, 1, 0);
        dueMole(x, 1, 30, 6, 1, EAST, 30, 1, 0);
        dueThrow(x, "moleOf(2, 0)", () -> x.moleOf(2, 0), INDEX);
        due("mole(0)", x.mole(0), 2);
        dueMole(x, 2, 0, 6, 0, -1, 0, 1, 0);
        // A mole who comes behind a caught one has nothing of it.
        x.plan(2, EAST);
        x.plan(2, EAST);
        x.pass(1);
        x.dig(1);
        due("mole(16)", x.mole(16), 2);
        dueMole(x, 2, 16, 6, 0, -1, 16, 1, 0);
    }

    private static void promise9Rake() {
        MolesLawn x = rowOfMounds(3);
        dueThrow(x, "rake(64)", () -> x.rake(64), INDEX);
        dueThrow(x, "rake(-1)", () -> x.rake(-1), INDEX);
        dueThrow(x, "rake(1) without a mound", () -> x.rake(1), STATE);
        dueThrow(x, "rake(6) where a trail begins", () -> x.rake(6), STATE);
        dueUndoable(x, "rake(2)", () -> x.rake(2));
        due("rake(2)", x.rake(2), 1);
        dueTunnel(x, 0, 0, 1, 2, 3, 4);
        dueTunnel(x, 1, 4, 5, 6);
        due("count(11)", x.count(11), 0);
        due("rake(0): one tunnel falls in", x.rake(0), 1);
        dueTunnel(x, 0, 4, 5, 6);
        due("count(11)", x.count(11), 1);
        x.mole(63);
        x.mole(62);
        x.dig(63);
        x.mole(63);
        x.dig(62);
        due("count(1)", x.count(1), 2);
        x.mole(40);
        x.trap(41, 0);
        walk(x, 2, EAST);
        due("rake(40): no tunnel", x.rake(40), 0);
        due("count(3)", x.count(3), 3);
    }

    // Tunnels that both begin, or both end, at the raked mound are turned round as need be.
    private static void promise9Turned() {
        MolesLawn x = new MolesLawn();
        x.set(2);
        x.mole(2);
        x.mole(2);
        walk(x, 0, EAST, EAST);
        walk(x, 1, WEST, WEST);
        x.mole(63);
        dueTunnel(x, 0, 2, 3, 4);
        dueTunnel(x, 1, 2, 1, 0);
        due("rake(2)", x.rake(2), 1);
        dueTunnel(x, 0, 4, 3, 2, 1, 0);
        MolesLawn y = new MolesLawn();
        y.set(2);
        y.mole(0);
        y.mole(4);
        walk(y, 0, EAST, EAST);
        walk(y, 1, WEST, WEST);
        dueTunnel(y, 0, 0, 1, 2);
        dueTunnel(y, 1, 4, 3, 2);
        walk(y, 0, SOUTH);
        walk(y, 1, SOUTH);
        dueThrow(y, "rake(2) where trails begin", () -> y.rake(2), STATE);
        y.dig(10);
        due("count(1)", y.count(1), 0);
        due("rake(2)", y.rake(2), 1);
        dueTunnel(y, 0, 0, 1, 2, 3, 4);
        due("ends", y.tunnel(0, 0) * 10 + y.tunnel(0, 1), 4);
    }

    // In place of the tunnel with the lower number; the ones between move up.
    private static void promise9InPlaceOfTheLower() {
        MolesLawn x = new MolesLawn();
        x.set(2);
        x.mole(0);
        x.mole(48);
        walk(x, 0, EAST, EAST);
        walk(x, 1, EAST, EAST);
        walk(x, 0, SOUTH, SOUTH);
        dueTunnel(x, 1, 48, 49, 50);
        due("rake(2)", x.rake(2), 1);
        dueTunnel(x, 0, 0, 1, 2, 10, 18);
        dueTunnel(x, 1, 48, 49, 50);
        due("count(4)", x.count(4), 2);
    }

    private static void promise9SameOtherMounds() {
        MolesLawn x = new MolesLawn();
        x.set(2);
        x.mole(0);
        walk(x, 0, EAST, EAST);
        walk(x, 0, WEST, WEST);
        due("two tunnels join 0 and 2", x.count(4), 2);
        due("rake(2): both fall in", x.rake(2), 2);
        due("count(11)", x.count(11), 2);
        due("count(4)", x.count(4), 0);
        MolesLawn y = rowOfMounds(2);
        walk(y, 0, WEST, WEST);
        walk(y, 0, SOUTH, SOUTH);
        due("four tunnels", y.count(4), 4);
        due("rake(2): with four tunnels all fall in", y.rake(2), 4);
        MolesLawn z = rowOfMounds(2);
        walk(z, 0, WEST, WEST);
        walk(z, 0, WEST, WEST);
        z.dig(3);
        due("two are left", z.count(4), 2);
    }

    private static void promise10Set() {
        MolesLawn x = new MolesLawn();
        x.mole(0);
        due("set(20)", x.set(20), 6);
        due("air stays", x.moleOf(0, 1), 6);
        x.mole(9);
        due("new moles have more", x.moleOf(1, 1), 20);
        due("set(8)", x.set(8), 20);
        due("air", x.moleOf(1, 1), 8);
        due("air", x.moleOf(0, 1), 6);
        due("count(13)", x.count(13), 8);
        dueUndoable(x, "set(2)", () -> x.set(2));
        due("set(2)", x.set(2), 8);
        due("air", x.moleOf(0, 1), 2);
        dueThrow(x, "set(1)", () -> x.set(1), ARGUMENT);
        dueThrow(x, "set(21)", () -> x.set(21), ARGUMENT);
        due("set(2) again", x.set(2), 2);
    }

    private static void promise11Append() {
        MolesLawn x = new MolesLawn();
        dueThrow(x, "append(32)", () -> x.append(32), ARGUMENT);
        dueThrow(x, "append(127)", () -> x.append(127), ARGUMENT);
        due("append(33)", x.append(33), 1);
        due("append(126)", x.append(126), 2);
        for (int i = 3; i <= 60; i++) {
            due("append('n')", x.append('n'), i);
        }
        dueThrow(x, "append('n') to 60", () -> x.append('n'), STATE);
        dueThrow(x, "append(32) to 60", () -> x.append(32), ARGUMENT);
        due("no saved states", x.count(14), 0);
    }

    private static void promise12ClearBuffer() {
        MolesLawn x = new MolesLawn();
        due("clearBuffer()", x.clearBuffer(), 0);
        type(x, "0:n");
        due("clearBuffer()", x.clearBuffer(), 3);
        due("firstError()", x.firstError(), 0);
        due("append('1')", x.append('1'), 1);
        due("no saved states", x.count(14), 0);
    }

    private static void promise13FirstError() {
        String[] texts = {"", "0", "3:", "4", "0n", "0:", "0:;", "0:n;", "0:n;;", "0:nesw", "0:nesw;3:ww;1",
            "0:nn:", "0:n0", "n", ":", "0:N", "0:n;1:x", "00", "0::", "0:n;0:n;2:", "0:e!n", "/", "0:n,1:s"};
        int[] faults = {0, 1, 2, 0, 1, 2, 2, 4, 4, 6, 13, 4, 3, 0, 0, 2, 6, 1, 2, 10, 3, 0, 3};
        for (int i = 0; i < texts.length; i++) {
            MolesLawn x = new MolesLawn();
            type(x, texts[i]);
            due("firstError() of " + texts[i], x.firstError(), faults[i]);
            due("the buffer stays", x.clearBuffer(), texts[i].length());
        }
    }

    private static void promise14Plans() {
        String[] incomplete = {"", "0", "0:", "0:n;", "0:n;1", "0:n;1:", "4:n", "0:n;;1:n", "x"};
        for (String text : incomplete) {
            MolesLawn x = new MolesLawn();
            x.mole(9);
            type(x, text);
            dueThrow(x, "plans() of " + text, x::plans, ARGUMENT);
            due("the buffer stays", x.clearBuffer(), text.length());
        }
        MolesLawn x = new MolesLawn();
        x.mole(0);
        x.mole(9);
        x.plan(1, WEST);
        type(x, "1:ne;0:s;1:w;2:nnn");
        due("plans()", x.plans(), 4);
        due("the buffer is clear", x.clearBuffer(), 0);
        due("count(14)", x.count(14), 4);
        dueMole(x, 0, 0, 6, 1, SOUTH);
        dueMole(x, 1, 9, 6, 4, WEST);
        x.pass(2);
        dueMole(x, 1, 0, 6, 2, EAST);
        type(x, "3:n");
        due("plans() puts none", x.plans(), 0);
        due("and clears", x.clearBuffer(), 0);
        due("and saves a state", x.count(14), 6);
        type(x, "0:ssssssssssssssssssssssss;1:n");
        due("plans() to a full plan", x.plans(), 21);
        due("moleOf(0, 2)", x.moleOf(0, 2), 20);
        due("undo()", x.undo(), 5);
        due("one undo for all", x.moleOf(0, 2) * 100 + x.moleOf(1, 2), 2);
        due("the buffer does not come back", x.clearBuffer(), 0);
        dueUndoable(x, "plans()", () -> {
            type(x, "0:nesw");
            return x.plans();
        });
    }

    private static void promise15Undo() {
        MolesLawn x = new MolesLawn();
        dueThrow(x, "undo()", x::undo, STATE);
        for (int i = 0; i < 8; i++) {
            x.root(i, 1);
        }
        due("count(14)", x.count(14), 6);
        x.append('0');
        for (int i = 5; i >= 0; i--) {
            due("undo()", x.undo(), i);
            due("count(8)", x.count(8), i + 2);
        }
        dueThrow(x, "undo() of the dropped", x::undo, STATE);
        due("the buffer is not undone", x.clearBuffer(), 1);
        x.root(63, 1);
        x.trap(62, 4);
        due("undo() behind new calls", x.undo(), 1);
        due("count(7)", x.count(7), 0);
        due("count(8)", x.count(8), 3);
        x.keep();
        due("undo()", x.undo(), 0);
        due("the snapshot is not undone", x.restore(), 0);
        due("count(8)", x.count(8), 3);
        MolesLawn y = new MolesLawn();
        dueThrow("dig(64)", () -> y.dig(64), INDEX);
        dueThrow("undo() behind a call that threw", y::undo, STATE);
    }

    private static void promise15CountsComeBack() {
        MolesLawn x = new MolesLawn();
        x.set(2);
        x.mole(0);
        x.root(3, 1);
        x.trap(20, 7);
        for (int d : new int[] {EAST, EAST, EAST, SOUTH}) {
            x.plan(0, d);
        }
        String before = told(x);
        x.pass(4);
        x.dig(1);
        x.dig(2);
        x.set(9);
        x.trap(21, 3);
        for (int i = 4; i >= 0; i--) {
            x.undo();
        }
        due("all is as before", told(x).equals(before) ? 1 : 0, 1);
        due("pass(4) again", x.pass(4), 2);
    }

    private static void promise16Keep() {
        MolesLawn x = rowOfMounds(2);
        int saved = x.count(14);
        due("keep()", x.keep(), 2);
        due("keep() saves no state", x.count(14), saved);
        x.dig(1);
        due("keep()", x.keep(), 1);
        x.dig(3);
        due("restore() of the later one", x.restore(), 1);
        due("tuft(1, 5)", x.tuft(1, 5), 1);
        due("keep() of an empty lawn", new MolesLawn().keep(), 0);
    }

    private static void promise17Restore() {
        MolesLawn x = rowOfMounds(3);
        dueThrow(x, "restore()", x::restore, STATE);
        x.plan(0, SOUTH);
        String before = told(x);
        x.keep();
        x.dig(6);
        x.set(11);
        x.root(9, 9);
        type(x, "0:n");
        dueUndoable(x, "restore()", x::restore);
        due("count(13)", x.count(13), 11);
        due("restore()", x.restore(), 3);
        due("all is back", told(x).equals(before) ? 1 : 0, 1);
        due("the buffer stays", x.clearBuffer(), 3);
        due("undo() of it", x.undo(), 5);
        due("count(13)", x.count(13), 11);
        due("restore() again", x.restore(), 3);
        walk(x, 0, SOUTH, SOUTH);
        due("the snapshot stays as it was", x.restore(), 3);
        due("all is back again", told(x).equals(before) ? 1 : 0, 1);
        dueThrow("restore() of another object", () -> new MolesLawn().restore(), STATE);
    }

    private static void promise18Tuft() {
        MolesLawn x = rowOfMounds(2);
        x.root(63, 7);
        x.trap(62, 13);
        int[][] dues = {{0, 1, 0, -1, 1, 1, 0, -1, 1, 0}, {2, 1, 0, -1, 1, 2, 0, -1, 2, 0},
            {4, 1, 0, -1, 1, 1, 0, -1, 1, 1}, {1, 0, 0, -1, 1, 2, 0, -1, 1, 0}, {63, 0, 7, -1, 0, 0, 0, -1, 0, 0},
            {62, 0, 0, 13, 0, 0, 0, -1, 0, 0}, {9, 0, 0, -1, 0, 3, 0, -1, 0, 0}, {5, 0, 0, -1, 0, 1, 0, -1, 0, 0},
            {8, 0, 0, -1, 0, 2, 0, -1, 0, 0}, {7, 0, 0, -1, 0, 0, 0, -1, 0, 0}};
        for (int[] row : dues) {
            for (int what = 0; what <= 8; what++) {
                due("tuft(" + row[0] + ", " + what + ")", x.tuft(row[0], what), row[what + 1]);
            }
        }
        dueThrow(x, "tuft(64, 0)", () -> x.tuft(64, 0), INDEX);
        dueThrow(x, "tuft(-1, 9)", () -> x.tuft(-1, 9), INDEX);
        dueThrow(x, "tuft(0, 9)", () -> x.tuft(0, 9), ARGUMENT);
        dueThrow(x, "tuft(0, -1)", () -> x.tuft(0, -1), ARGUMENT);
        int saved = x.count(14);
        x.tuft(0, 6);
        due("a look saves nothing", x.count(14), saved);
    }

    private static void promise18Sure() {
        MolesLawn x = new MolesLawn();
        x.dig(0);
        due("known", x.tuft(0, 6), 0);
        due("beside a 0 none is hollow", x.tuft(1, 6) + x.tuft(8, 6) + x.tuft(9, 6), 0);
        due("farther nothing is known", x.tuft(2, 6), -1);
        x.mole(18);
        due("9 has the number 1", x.tuft(9, 4), 1);
        due("18 is not sure yet", x.tuft(18, 6), -1);
        x.dig(9);
        due("still not: 2, 10, 16, 17, 18 may be", x.tuft(18, 6), -1);
        x.dig(1);
        due("1 has the number 0: 2 and 10 are not", x.tuft(2, 6) * 10 + x.tuft(10, 6), 0);
        x.dig(8);
        due("16 and 17 are not: so 18 is", x.tuft(18, 6), 1);
        due("16", x.tuft(16, 6), 0);
        due("17", x.tuft(17, 6), 0);
        due("19 is not known", x.tuft(19, 6), -1);
        // 27 has the number 1, and 18 is sure: the others beside 27 are not hollow.
        x.dig(27);
        for (int t : new int[] {26, 28, 34, 35, 36, 19, 20}) {
            due("tuft(" + t + ", 6)", x.tuft(t, 6), 0);
        }
        due("29 is not known", x.tuft(29, 6), -1);
        x.mole(9);
        due("an opened tuft that is hollow again", x.tuft(9, 6), 1);
    }

    private static void promise18OpenedAndHollow() {
        MolesLawn x = new MolesLawn();
        x.dig(0);
        x.mole(1);
        walk(x, 0, SOUTH, WEST);
        due("0 has the number 3: all beside it are hollow", x.tuft(0, 4), 3);
        due("1, 8, 9 are sure", x.tuft(1, 6) * 100 + x.tuft(8, 6) * 10 + x.tuft(9, 6), 111);
        due("0 itself is not", x.tuft(0, 6), 0);
        due("10 is open", x.tuft(10, 6), -1);
        walk(x, 0, NORTH);
        due("0 is hollow and opened", x.tuft(0, 6), 1);
        due("tuft(0, 5)", x.tuft(0, 5), 1);
    }

    private static void promise18TuftTwiceInATunnel() {
        MolesLawn x = new MolesLawn();
        x.set(8);
        x.mole(0);
        // 0 1 2 10 9 1 2 3 4: the tufts 1 and 2 twice.
        walk(x, 0, EAST, EAST, SOUTH, WEST, NORTH, EAST, EAST, EAST);
        due("tuft(1, 7)", x.tuft(1, 7), 1);
        due("tuft(2, 7)", x.tuft(2, 7), 1);
        due("tuft(9, 7)", x.tuft(9, 7), 1);
        due("count(5)", x.count(5), 7);
        due("ifDug(1, 0)", x.ifDug(1, 0), 1);
        due("bestDig()", x.bestDig(), 0);
    }

    private static void promise19MoleOf() {
        MolesLawn x = new MolesLawn();
        dueThrow(x, "moleOf(0, 0)", () -> x.moleOf(0, 0), INDEX);
        x.mole(63);
        x.mole(0);
        type(x, "0:nwse;1:eese");
        x.plans();
        x.pass(3);
        dueMole(x, 0, 62, 3, 1, EAST, 63, 4, 3);
        dueMole(x, 1, 10, 3, 1, EAST, 0, 4, 3);
        dueThrow(x, "moleOf(2, 7)", () -> x.moleOf(2, 7), INDEX);
        dueThrow(x, "moleOf(-1, 0)", () -> x.moleOf(-1, 0), INDEX);
        dueThrow(x, "moleOf(1, 7)", () -> x.moleOf(1, 7), ARGUMENT);
        dueThrow(x, "moleOf(1, -1)", () -> x.moleOf(1, -1), ARGUMENT);
    }

    private static void promise19TrailWithATuftTwice() {
        MolesLawn x = new MolesLawn();
        x.mole(0);
        walk(x, 0, EAST, EAST, WEST, EAST);
        dueMole(x, 0, 2, 2, 0, -1, 0, 5, 4);
        due("hollow tufts", x.count(5), 3);
    }

    private static void promise20Tunnel() {
        MolesLawn x = rowOfMounds(2);
        due("tunnel(0, 0)", x.tunnel(0, 0), 0);
        due("tunnel(0, 1)", x.tunnel(0, 1), 2);
        due("tunnel(0, 2)", x.tunnel(0, 2), 3);
        due("tunnel(1, 0)", x.tunnel(1, 0), 2);
        due("tunnel(1, 1)", x.tunnel(1, 1), 4);
        dueThrow(x, "tunnel(2, 0)", () -> x.tunnel(2, 0), INDEX);
        dueThrow(x, "tunnel(-1, 3)", () -> x.tunnel(-1, 3), INDEX);
        dueThrow(x, "tunnel(0, 3)", () -> x.tunnel(0, 3), ARGUMENT);
        dueThrow(x, "tunnel(0, -1)", () -> x.tunnel(0, -1), ARGUMENT);
    }

    private static void promise21Cell() {
        MolesLawn x = rowOfMounds(2);
        due("cell(1, 0)", x.cell(1, 0), 2);
        due("cell(1, 2)", x.cell(1, 2), 4);
        due("cell(1, 3)", x.cell(1, 3), -1);
        due("cell(0, 3)", x.cell(0, 3), -1);
        due("cell(0, most)", x.cell(0, Integer.MAX_VALUE), -1);
        dueThrow(x, "cell(2, 0)", () -> x.cell(2, 0), INDEX);
        dueThrow(x, "cell(-1, -1)", () -> x.cell(-1, -1), INDEX);
        dueThrow(x, "cell(0, -1)", () -> x.cell(0, -1), ARGUMENT);
        dueThrow(x, "cell(0, least)", () -> x.cell(0, Integer.MIN_VALUE), ARGUMENT);
    }

    private static void promise22Count() {
        MolesLawn x = rowOfMounds(3);
        x.mole(63);
        x.mole(56);
        x.root(57, 1);
        x.root(40, 2);
        x.trap(62, 0);
        x.trap(41, 5);
        walk(x, 2, EAST);
        walk(x, 1, WEST);
        x.dig(3);
        x.dig(33);
        // Mole 2 gnaws at 57, goes there in the second beat, and pushes a mound up.
        int[] dues = {8, 2, 1, 7, 3, 8, 2, 1, 1, 1, 7, 1, 4, 2, 6};
        for (int what = 0; what <= 14; what++) {
            due("count(" + what + ")", x.count(what), dues[what]);
        }
        dueThrow(x, "count(15)", () -> x.count(15), ARGUMENT);
        dueThrow(x, "count(-1)", () -> x.count(-1), ARGUMENT);
    }

    private static void promise22Groups() {
        due("groups of a row", rowOfMounds(3).count(12), 1);
        MolesLawn x = new MolesLawn();
        x.set(2);
        x.mole(0);
        x.mole(48);
        walk(x, 0, EAST, EAST);
        walk(x, 1, EAST, EAST);
        walk(x, 0, SOUTH, SOUTH);
        due("two groups", x.count(12), 2);
        // A way round from 18 to 0 again joins nothing new; one down to 50 does.
        walk(x, 0, WEST, WEST, NORTH, NORTH);
        due("five tunnels", x.count(4), 5);
        due("still two groups", x.count(12), 2);
        walk(x, 1, NORTH, NORTH, NORTH, NORTH);
        due("one group", x.count(12), 1);
        x.mole(63);
        due("a mound by itself", x.count(12), 2);
    }

    private static void promise23Joined() {
        MolesLawn x = rowOfMounds(3);
        x.mole(63);
        due("joined(0, 6)", x.joined(0, 6), 1);
        due("joined(6, 0)", x.joined(6, 0), 1);
        due("joined(2, 2)", x.joined(2, 2), 1);
        due("joined(63, 63)", x.joined(63, 63), 1);
        due("joined(0, 63)", x.joined(0, 63), 0);
        due("joined(1, 1) without a mound", x.joined(1, 1), 0);
        due("joined(0, 1)", x.joined(0, 1), 0);
        due("joined(1, 0)", x.joined(1, 0), 0);
        x.dig(3);
        due("joined(0, 6) behind a fall", x.joined(0, 6), 0);
        due("joined(4, 6)", x.joined(4, 6), 1);
        dueThrow(x, "joined(64, 0)", () -> x.joined(64, 0), INDEX);
        dueThrow(x, "joined(0, 64)", () -> x.joined(0, 64), INDEX);
        dueThrow(x, "joined(-1, 0)", () -> x.joined(-1, 0), INDEX);
        dueThrow(x, "joined(1, -1)", () -> x.joined(1, -1), INDEX);
    }

    private static void promise24Fewest() {
        MolesLawn x = rowOfMounds(3);
        x.mole(63);
        due("fewest(0, 6)", x.fewest(0, 6), 3);
        due("fewest(6, 2)", x.fewest(6, 2), 2);
        due("fewest(4, 4)", x.fewest(4, 4), 0);
        due("fewest(0, 63)", x.fewest(0, 63), -1);
        due("fewest(1, 1)", x.fewest(1, 1), -1);
        due("fewest(1, 0)", x.fewest(1, 0), -1);
        due("fewest(0, 1)", x.fewest(0, 1), -1);
        // A second way from 6 to 0, over a mound at 13.
        x.set(20);
        walk(x, 0, SOUTH, WEST, WEST, WEST, WEST, WEST, NORTH, WEST);
        due("fewest(6, 13)", x.fewest(6, 13), 1);
        due("fewest(6, 0)", x.fewest(6, 0), 2);
        due("fewest(4, 13)", x.fewest(4, 13), 2);
        dueThrow(x, "fewest(64, 0)", () -> x.fewest(64, 0), INDEX);
        dueThrow(x, "fewest(0, -1)", () -> x.fewest(0, -1), INDEX);
    }

    private static void promise24ShorterWay() {
        MolesLawn x = rowOfMounds(3);
        x.set(20);
        x.mole(0);
        due("fewest(0, 6)", x.fewest(0, 6), 3);
        walk(x, 1, SOUTH, EAST, EAST, EAST, EAST, EAST, EAST, NORTH);
        due("a tunnel by itself", x.tunnel(3, 0) * 10 + x.tunnel(3, 1), 6);
        due("fewest(0, 6)", x.fewest(0, 6), 1);
        due("fewest(0, 4)", x.fewest(0, 4), 2);
        due("fewest(2, 6)", x.fewest(2, 6), 2);
    }

    private static void promise25IfDug() {
        MolesLawn x = rowOfMounds(3);
        x.mole(40);
        walk(x, 1, EAST);
        long before = x.digest();
        due("ifDug(2, 0)", x.ifDug(2, 0), 2);
        due("ifDug(2, 1)", x.ifDug(2, 1), 0);
        due("ifDug(2, 2)", x.ifDug(2, 2), 5);
        due("ifDug(6, 0)", x.ifDug(6, 0), 1);
        due("ifDug(6, 1)", x.ifDug(6, 1), 1);
        due("ifDug(6, 2)", x.ifDug(6, 2), 7);
        due("ifDug(40, 1)", x.ifDug(40, 1), 0);
        due("ifDug(40, 2)", x.ifDug(40, 2), 8);
        due("ifDug(41, 1)", x.ifDug(41, 1), 1);
        due("ifDug(41, 2)", x.ifDug(41, 2), 7);
        due("ifDug(63, 0)", x.ifDug(63, 0), 0);
        due("ifDug(63, 2)", x.ifDug(63, 2), 9);
        due("nothing is changed", x.digest() == before ? 1 : 0, 1);
        x.dig(1);
        due("ifDug(4, 0): more, not all", x.ifDug(4, 0), 2);
        dueThrow(x, "ifDug(64, 3)", () -> x.ifDug(64, 3), INDEX);
        dueThrow(x, "ifDug(-1, 0)", () -> x.ifDug(-1, 0), INDEX);
        dueThrow(x, "ifDug(0, 3)", () -> x.ifDug(0, 3), ARGUMENT);
        dueThrow(x, "ifDug(0, -1)", () -> x.ifDug(0, -1), ARGUMENT);
    }

    private static void promise26BestDig() {
        due("bestDig() of an empty lawn", new MolesLawn().bestDig(), -1);
        MolesLawn x = new MolesLawn();
        x.mole(9);
        due("bestDig(): a trail is no tunnel", x.bestDig(), -1);
        MolesLawn y = rowOfMounds(3);
        due("bestDig(): 2 and 4 have two", y.bestDig(), 2);
        y.dig(63);
        due("bestDig()", y.bestDig(), 2);
        y.dig(3);
        due("bestDig(): one is as good as the other", y.bestDig(), 0);
        MolesLawn z = new MolesLawn();
        z.dig(1);
        z.dig(2);
        z.set(2);
        z.mole(0);
        walk(z, 0, EAST, EAST);
        walk(z, 0, EAST, EAST);
        due("ifDug(2, 0)", z.ifDug(2, 0), 2);
        due("bestDig(): the opened ones not", z.bestDig(), 0);
        z.keep();
        z.dig(0);
        due("bestDig()", z.bestDig(), 3);
        z.dig(3);
        due("bestDig()", z.bestDig(), -1);
    }

    private static void promise27IfPassed() {
        MolesLawn x = new MolesLawn();
        x.set(2);
        x.mole(0);
        x.mole(40);
        type(x, "0:eeee;1:eee");
        x.plans();
        x.trap(43, 3);
        long before = x.digest();
        due("ifPassed(1, 0)", x.ifPassed(1, 0), 0);
        due("ifPassed(2, 0)", x.ifPassed(2, 0), 2);
        due("ifPassed(2, 1)", x.ifPassed(2, 1), 2);
        due("ifPassed(2, 2)", x.ifPassed(2, 2), 0);
        due("ifPassed(3, 2)", x.ifPassed(3, 2), 1);
        due("ifPassed(30, 0)", x.ifPassed(30, 0), 3);
        due("ifPassed(30, 1)", x.ifPassed(30, 1), 3);
        due("ifPassed(30, 2)", x.ifPassed(30, 2), 1);
        due("nothing is changed", x.digest() == before ? 1 : 0, 1);
        x.pass(2);
        due("ifPassed(1, 0): more, not all", x.ifPassed(1, 0), 0);
        due("ifPassed(2, 0)", x.ifPassed(2, 0), 1);
        due("ifPassed(2, 1): all, not more", x.ifPassed(2, 1), 3);
        x.pass(2);
        due("ifPassed(1, 2): more, not all", x.ifPassed(1, 2), 0);
        dueThrow(x, "ifPassed(0, 0)", () -> x.ifPassed(0, 0), ARGUMENT);
        dueThrow(x, "ifPassed(31, 0)", () -> x.ifPassed(31, 0), ARGUMENT);
        dueThrow(x, "ifPassed(1, 3)", () -> x.ifPassed(1, 3), ARGUMENT);
        dueThrow(x, "ifPassed(1, -1)", () -> x.ifPassed(1, -1), ARGUMENT);
        dueThrow(x, "ifPassed(0, 3)", () -> x.ifPassed(0, 3), ARGUMENT);
    }

    private static void promise28NextMound() {
        MolesLawn x = new MolesLawn();
        due("nextMound()", x.nextMound(), -1);
        x.mole(0);
        due("nextMound()", x.nextMound(), -1);
        type(x, "0:eeeeee");
        x.plans();
        long before = x.digest();
        due("nextMound()", x.nextMound(), 6);
        due("nothing is changed", x.digest() == before ? 1 : 0, 1);
        x.pass(5);
        due("nextMound()", x.nextMound(), 1);
        x.pass(1);
        due("nextMound()", x.nextMound(), -1);
        // Five roots of 9 in a row: a mole at a mound gnaws without new mounds, then its steps count.
        MolesLawn y = new MolesLawn();
        y.set(20);
        y.mole(0);
        for (int t = 1; t <= 7; t++) {
            y.root(t, 9);
        }
        type(y, "0:eeeeeee");
        y.plans();
        // 9 tries and the step to 1: 10 air; 9 tries more at 1, then one step to 2 with the last air.
        due("nextMound()", y.nextMound(), 20);
    }

    // The last of 100 beats still counts, the 101st not any more.
    private static void promise28Edge() {
        for (int beyond = 0; beyond <= 1; beyond++) {
            MolesLawn x = new MolesLawn();
            x.set(2);
            // Mounds with roots of 9 on the way, each from a mole that then went into a trap.
            for (int t : new int[] {1, 2, 3, 4, 5, 6, 7, 15, 14}) {
                x.mole(t);
                x.trap(t + 8, 0);
                walk(x, 0, SOUTH);
                x.root(t, 9);
            }
            x.root(13, 8);
            x.mole(0);
            // A beat more by a direction that leads beyond the lawn.
            type(x, beyond == 0 ? "0:eeeeeeeswww" : "0:neeeeeeeswww");
            x.plans();
            // Nine mounds cost 10 beats each, the root of 8 as many; the mound comes up behind two steps more.
            due("nextMound()", x.nextMound(), beyond == 0 ? 100 : -1);
            x.pass(1);
            due("nextMound()", x.nextMound(), beyond == 0 ? 99 : 100);
        }
    }

    private static void promise29HollowShare() {
        dueShare(new MolesLawn(), 0.0);
        MolesLawn x = rowOfMounds(3);
        dueShare(x, 7.0 / 64.0);
        x.mole(63);
        dueShare(x, 0.125);
        x.dig(63);
        x.dig(1);
        x.dig(3);
        x.dig(5);
        dueShare(x, 1.0 / 64.0);
        due("count(5)", x.count(5), 1);
    }

    private static void dueShare(MolesLawn x, double want) {
        due("hollowShare()", Double.doubleToLongBits(x.hollowShare()), Double.doubleToLongBits(want));
    }

    private static void promise30Digest() {
        MolesLawn x = new MolesLawn();
        due("digest() of a new lawn", x.digest(), digestOf(-1, 0, ""));
        due("digest() again", x.digest(), digestOf(-1, 0, ""));
        type(x, "1:n~!");
        due("digest() with a buffer", x.digest(), digestOf(-1, 0, "1:n~!"));
        x.mole(9);
        due("digest() with a mole", x.digest(), digestOf(9, 1, "1:n~!"));
        x.rest(0);
        due("digest() with a saved state more", x.digest(), digestOf(9, 2, "1:n~!"));
        promise30DigestOfTunnels();
    }

    // The mounds 0, 2 and 4 in a row, one mole at 4 with two directions, one at 63.
    private static void promise30DigestOfTunnels() {
        MolesLawn x = rowOfMounds(2);
        x.mole(63);
        x.plan(0, SOUTH);
        x.plan(0, SOUTH);
        List<Long> list = new ArrayList<>();
        for (int number : new int[] {4, 2, 0, 4, 2, 6, 0, 0, 0, 0, 4, 0, 2, 2, 6}) {
            list.add((long) number);
        }
        for (int t = 0; t < 64; t++) {
            int number = t <= 4 ? (t == 0 || t == 4 ? 1 : 2) : t == 5 ? 1 : t == 8 ? 2 : t >= 9 && t <= 11 ? 3
                    : t == 12 ? 2 : t == 13 || t == 54 || t == 55 || t == 62 ? 1 : 0;
            int mound = t == 0 || t == 2 || t == 4 || t == 63 ? 1 : 0;
            int here = t == 4 || t == 63 ? 1 : 0;
            int tunnels = t > 4 ? 0 : t == 2 ? 2 : 1;
            for (int v : new int[] {mound, 0, -1, t <= 4 || t == 63 ? 1 : 0, number, 0, -1, tunnels, here}) {
                list.add((long) v);
            }
        }
        for (int v : new int[] {4, 2, 2, SOUTH, 4, 1, 4, 63, 2, 0, -1, 63, 1, 0}) {
            list.add((long) v);
        }
        for (int v : new int[] {0, 2, 3, 0, 1, 2, 2, 4, 3, 2, 3, 4, 0, 1, 2, -1}) {
            list.add((long) v);
        }
        for (int t = 0; t < 64; t++) {
            list.add(t > 4 ? 0L : t == 2 ? 2L : 1L);
        }
        for (int v : new int[] {2, 1, 3, 0, 2}) {
            list.add((long) v);
        }
        list.add(Double.doubleToLongBits(6 / 64.0));
        list.add(0L);
        due("digest() with tunnels", x.digest(), hashOf(list));
    }

    private static long hashOf(List<Long> list) {
        long hash = 3631;
        for (long v : list) {
            hash = 31 * hash + v;
        }
        return hash;
    }

    // By the document's list, for a lawn with one mole at most, who came at a tuft, and did nothing.
    private static long digestOf(int mole, int saved, String buffer) {
        int one = mole >= 0 ? 1 : 0;
        List<Long> list = new ArrayList<>();
        for (int number : new int[] {0, one, 0, one, 0, one, 0, 0, 0, 0, one, 0, one, 6, saved}) {
            list.add((long) number);
        }
        for (int t = 0; t < 64; t++) {
            int here = t == mole ? 1 : 0;
            boolean beside = one == 1 && here == 0 && Math.abs(t / 8 - mole / 8) <= 1 && Math.abs(t % 8 - mole % 8) <= 1;
            for (int number : new int[] {here, 0, -1, here, beside ? 1 : 0, 0, -1, 0, here}) {
                list.add((long) number);
            }
        }
        if (one == 1) {
            for (int number : new int[] {mole, 6, 0, -1, mole, 1, 0}) {
                list.add((long) number);
            }
            list.add(0L);
        }
        for (int t = 0; t < 64; t++) {
            list.add(0L);
        }
        for (int number : new int[] {-1, 0, 0, 0, -1}) {
            list.add((long) number);
        }
        list.add(Double.doubleToLongBits(one / 64.0));
        list.add((long) buffer.length());
        for (char c : buffer.toCharArray()) {
            list.add((long) c);
        }
        return hashOf(list);
    }

    public static void main(String[] args) {
        Runnable[][] promises = {
            {PromiseTest::promise1NewObject},
            {PromiseTest::promise2Mole},
            {PromiseTest::promise3Plan},
            {PromiseTest::promise4Rest},
            {PromiseTest::promise5Pass, PromiseTest::promise5BeyondTheLawn, PromiseTest::promise5FinishedTrails,
                PromiseTest::promise5OwnTrailCrossed, PromiseTest::promise5MoundSplitsTunnelsAndTrails,
                PromiseTest::promise5MoundSplitsOtherTrails, PromiseTest::promise5Roots, PromiseTest::promise5Traps,
                PromiseTest::promise5TurnsBehindACaughtMole},
            {PromiseTest::promise6Root},
            {PromiseTest::promise7Trap},
            {PromiseTest::promise8Dig, PromiseTest::promise8Trails, PromiseTest::promise8NewMoundsSplitTheOthers,
                PromiseTest::promise8BothTrailsFall, PromiseTest::promise8CatchesSome},
            {PromiseTest::promise9Rake, PromiseTest::promise9Turned, PromiseTest::promise9InPlaceOfTheLower,
                PromiseTest::promise9SameOtherMounds},
            {PromiseTest::promise10Set},
            {PromiseTest::promise11Append},
            {PromiseTest::promise12ClearBuffer},
            {PromiseTest::promise13FirstError},
            {PromiseTest::promise14Plans},
            {PromiseTest::promise15Undo, PromiseTest::promise15CountsComeBack},
            {PromiseTest::promise16Keep},
            {PromiseTest::promise17Restore},
            {PromiseTest::promise18Tuft, PromiseTest::promise18Sure, PromiseTest::promise18OpenedAndHollow,
                PromiseTest::promise18TuftTwiceInATunnel},
            {PromiseTest::promise19MoleOf, PromiseTest::promise19TrailWithATuftTwice},
            {PromiseTest::promise20Tunnel},
            {PromiseTest::promise21Cell},
            {PromiseTest::promise22Count, PromiseTest::promise22Groups},
            {PromiseTest::promise23Joined},
            {PromiseTest::promise24Fewest, PromiseTest::promise24ShorterWay},
            {PromiseTest::promise25IfDug},
            {PromiseTest::promise26BestDig},
            {PromiseTest::promise27IfPassed},
            {PromiseTest::promise28NextMound, PromiseTest::promise28Edge},
            {PromiseTest::promise29HollowShare},
            {PromiseTest::promise30Digest},
        };
        for (int i = 0; i < promises.length; i++) {
            promise = i + 1;
            for (Runnable test : promises[i]) {
                test.run();
            }
        }
        System.out.println(wrong == 0 ? "the promises 1 to " + promises.length + " hold" : wrong + " answers are not as due");
        if (wrong != 0) {
            System.exit(1);
        }
    }
}
