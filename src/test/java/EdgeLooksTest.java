/** The promises 18 to 22, the looks: each sentence that names a boundary has a test of its own. */
public final class EdgeLooksTest extends Edges {

    // ---- promise 18

    private static void tuftAtTheEnds() {
        MolesLawn x = new MolesLawn();
        x.root(0, 3);
        x.root(63, 4);
        dueTuft(x, 0, 1, 3);
        dueTuft(x, 63, 1, 4);
    }

    private static void tuftMound() {
        MolesLawn x = rowOfMounds(2);
        for (int t = 0; t < 64; t++) {
            dueTuft(x, t, 0, t == 0 || t == 2 || t == 4 ? 1 : 0);
        }
        x.rake(0);
        dueTuft(x, 0, 0, 0);
        x.dig(4);
        dueTuft(x, 4, 0, 0);
        dueTuft(x, 2, 0, 1);
    }

    private static void tuftRoot() {
        MolesLawn x = new MolesLawn();
        dueTuft(x, 1, 1, 0);
        x.root(1, 9);
        dueTuft(x, 1, 1, 9);
        x.set(20);
        x.mole(0);
        x.plan(0, EAST);
        x.pass(8);
        dueTuft(x, 1, 1, 1);
        x.pass(1);
        dueTuft(x, 1, 1, 0);
        dueTuft(x, 2, 1, 0);
    }

    private static void tuftTrap() {
        MolesLawn x = new MolesLawn();
        dueTuft(x, 1, 2, NONE);
        x.trap(1, 20);
        dueTuft(x, 1, 2, 20);
        x.pass(19);
        dueTuft(x, 1, 2, 1);
        x.pass(1);
        dueTuft(x, 1, 2, 0);
        x.pass(1);
        dueTuft(x, 1, 2, 0);
        x.mole(0);
        walk(x, 0, EAST);
        dueTuft(x, 1, 2, NONE);
        dueTuft(x, 0, 2, NONE);
    }

    private static void tuftHollow() {
        MolesLawn x = rowOfMounds(1);
        x.mole(9);
        walk(x, 1, EAST);
        for (int t = 0; t < 64; t++) {
            dueTuft(x, t, 3, t <= 2 || t == 9 || t == 10 ? 1 : 0);
        }
        x.dig(1);
        for (int t = 0; t < 64; t++) {
            dueTuft(x, t, 3, t == 2 || t == 9 || t == 10 ? 1 : 0);
        }
    }

    private static void tuftNumber() {
        MolesLawn x = new MolesLawn();
        dueTuft(x, 9, 4, 0);
        x.set(20);
        x.mole(0);
        // A ring round 9: at each step one more is beside it; the mole's own tuft counts for it, too.
        int[] ring = {EAST, EAST, SOUTH, SOUTH, WEST, WEST, NORTH};
        for (int i = 0; i < ring.length; i++) {
            dueTuft(x, 9, 4, i + 1);
            walk(x, 0, ring[i]);
        }
        dueTuft(x, 9, 4, 8);
        walk(x, 0, EAST);
        due("9 itself does not count", x.tuft(9, 4), 8);
        due("a corner that is hollow", x.tuft(0, 4), 3);
        dueTuft(x, 63, 4, 0);
    }

    private static void tuftOpened() {
        MolesLawn x = new MolesLawn();
        for (int t = 0; t < 64; t++) {
            dueTuft(x, t, 5, 0);
            x.dig(t);
            dueTuft(x, t, 5, 1);
        }
        x.mole(63);
        due("it stays opened", x.tuft(63, 5), 1);
        x.undo();
        x.undo();
        due("undone", x.tuft(63, 5), 0);
    }

    private static void tuftSure() {
        MolesLawn x = new MolesLawn();
        due("nothing is known", x.tuft(0, 6), NONE);
        x.mole(1);
        walk(x, 0, SOUTH, WEST);
        due("hollow, but not known", x.tuft(8, 6), NONE);
        x.dig(0);
        due("known that it is not", x.tuft(0, 6), 0);
        due("hollow for sure", x.tuft(8, 6), 1);
        due("not to be told", x.tuft(2, 6), NONE);
        x.dig(63);
        due("sure that it is not", x.tuft(62, 6), 0);
        x.mole(63);
        due("known to be hollow", x.tuft(63, 6), 1);
    }

    private static void tuftTunnels() {
        MolesLawn x = loop();
        dueTuft(x, 0, 7, 1);
        due("twice in one", x.tuft(1, 7), 1);
        dueTuft(x, 8, 7, 0);
        due("a trail is none", trailOnly().tuft(1, 7), 0);
        due("480", crowd().tuft(1, 7), 480);
        MolesLawn y = rowOfMounds(2);
        due("where two end", y.tuft(2, 7), 2);
        due("in the middle of one", y.tuft(1, 7), 1);
    }

    private static MolesLawn trailOnly() {
        MolesLawn x = new MolesLawn();
        x.mole(0);
        walk(x, 0, EAST, EAST);
        return x;
    }

    private static void tuftMoles() {
        MolesLawn x = new MolesLawn();
        for (int i = 0; i < 4; i++) {
            dueTuft(x, 63, 8, i);
            x.mole(63);
        }
        dueTuft(x, 63, 8, 4);
        walk(x, 2, NORTH);
        dueTuft(x, 63, 8, 3);
        dueTuft(x, 55, 8, 1);
        walk(x, 2, NORTH);
        due("where one went through", x.tuft(55, 8), 0);
        x.dig(63);
        dueTuft(x, 63, 8, 0);
        dueTuft(x, 47, 8, 1);
    }

    private static void tuftNoTuft() {
        for (int what = 0; what <= 8; what++) {
            int which = what;
            refusedFor(Edges::busy, "tuft(.., " + what + ")", (x, t) -> x.tuft(t, which), INDEX, -1, 64);
        }
        refusedFor(Edges::empty, "tuft(.., 0)", (x, t) -> x.tuft(t, 0), INDEX, -1, 64, LEAST, MOST);
        refusedFor(Edges::busy, "tuft(.., 9)", (x, t) -> x.tuft(t, 9), INDEX, -1, 64);
        refusedFor(Edges::busy, "tuft(.., -1)", (x, t) -> x.tuft(t, -1), INDEX, -1, 64);
    }

    private static void tuftNoWhat() {
        refusedFor(Edges::busy, "tuft(0, ..)", (x, w) -> x.tuft(0, w), ARGUMENT, -1, 9, LEAST, MOST);
        refusedFor(Edges::empty, "tuft(63, ..)", (x, w) -> x.tuft(63, w), ARGUMENT, -1, 9);
    }

    // ---- promise 19

    private static void moleOfWhom() {
        MolesLawn x = fourMoles();
        walk(x, 3, EAST);
        due("moleOf(0, 0)", x.moleOf(0, 0), 0);
        due("moleOf(3, 0)", x.moleOf(3, 0), 28);
        x.dig(0);
        due("moleOf(2, 0), when 0 is caught", x.moleOf(2, 0), 28);
    }

    private static void molePlace() {
        MolesLawn x = new MolesLawn();
        x.mole(63);
        due("at first", x.moleOf(0, 0), 63);
        walk(x, 0, WEST, NORTH);
        due("behind two steps", x.moleOf(0, 0), 54);
        x.root(46, 9);
        walk(x, 0, NORTH);
        due("at a root", x.moleOf(0, 0), 54);
    }

    private static void moleAir() {
        MolesLawn x = new MolesLawn();
        x.set(20);
        x.mole(0);
        for (int left = 20; left >= 1; left--) {
            due("air", x.moleOf(0, 1), left);
            walk(x, 0, left == 20 || left % 2 == 1 ? EAST : WEST);
            if (left > 1 && left < 20) {
                due("where it is", x.moleOf(0, 0), left % 2 == 1 ? 2 : 1);
            }
        }
        due("all its air, behind the last try", x.moleOf(0, 1), 20);
    }

    private static void molePlan() {
        MolesLawn x = fullPlan();
        due("directions", x.moleOf(0, 2), 20);
        x.pass(19);
        due("directions", x.moleOf(0, 2), 1);
        x.pass(1);
        due("directions", x.moleOf(0, 2), 0);
        x.pass(1);
        due("directions", x.moleOf(0, 2), 0);
    }

    private static void moleFirst() {
        MolesLawn x = fullPlan();
        due("the first", x.moleOf(0, 3), NORTH);
        x.pass(19);
        due("the last", x.moleOf(0, 3), SOUTH);
        x.pass(1);
        due("without any", x.moleOf(0, 3), NONE);
        for (int d = 0; d < 4; d++) {
            x.rest(0);
            x.plan(0, d);
            x.plan(0, (d + 1) % 4);
            due("the first", x.moleOf(0, 3), d);
        }
        x.rest(0);
        due("behind a rest", x.moleOf(0, 3), NONE);
    }

    private static void moleBegins() {
        MolesLawn x = new MolesLawn();
        x.set(3);
        x.mole(0);
        walk(x, 0, EAST, EAST);
        due("where it came", x.moleOf(0, 4), 0);
        x.mole(1);
        due("where a mound came up on its trail", x.moleOf(0, 4), 1);
        walk(x, 0, EAST);
        due("where it pushed one up", x.moleOf(0, 4), 3);
        walk(x, 0, EAST);
        x.dig(3);
        due("where it is, when its trail is dug", x.moleOf(0, 4), 4);
        due("as another", x.moleOf(1, 4), 1);
        walk(x, 1, SOUTH, NORTH);
        due("where its trail was finished", x.moleOf(1, 4), 1);
    }

    private static void moleTrail() {
        MolesLawn x = new MolesLawn();
        x.set(20);
        x.mole(0);
        due("at first", x.moleOf(0, 5), 1);
        for (int i = 2; i <= 20; i++) {
            walk(x, 0, i % 2 == 0 && i > 2 ? WEST : EAST);
            due("tufts, also those that are there again", x.moleOf(0, 5), i);
        }
        walk(x, 0, EAST);
        due("behind the last air", x.moleOf(0, 5), 1);
    }

    private static void moleSteps() {
        MolesLawn x = new MolesLawn();
        x.mole(0);
        due("at first", x.moleOf(0, 6), 0);
        walk(x, 0, NORTH, WEST);
        due("beyond the lawn is no step", x.moleOf(0, 6), 0);
        x.root(1, 2);
        x.plan(0, EAST);
        x.pass(2);
        due("gnawing is no step", x.moleOf(0, 6), 0);
        x.pass(1);
        due("a step", x.moleOf(0, 6), 1);
        walk(x, 0, WEST);
        due("a step to a mound", x.moleOf(0, 6), 2);
        for (int i = 0; i < 15; i++) {
            walk(x, 0, EAST, WEST);
        }
        due("more than the air, than a trail, than a plan", x.moleOf(0, 6), 32);
        x.dig(63);
        x.mole(9);
        due("of another", x.moleOf(1, 6), 0);
        x.dig(0);
        due("of one who comes in place of a caught one", x.mole(0), 1);
        due("steps", x.moleOf(1, 6), 0);
    }

    private static MolesLawn oneCaught() {
        MolesLawn x = fourMoles();
        x.dig(27);
        return x;
    }

    private static void moleOfNoMole() {
        for (int what = 0; what <= 6; what++) {
            int which = what;
            refusedFor(Edges::busy, "moleOf(.., " + what + ")", (x, m) -> x.moleOf(m, which), INDEX, 2, -1);
        }
        refusedFor(Edges::empty, "moleOf(.., 0)", (x, m) -> x.moleOf(m, 0), INDEX, 0, -1, LEAST, MOST);
        refusedFor(Edges::fourMoles, "moleOf(.., 0)", (x, m) -> x.moleOf(m, 0), INDEX, 4, -1);
        refusedFor(EdgeLooksTest::oneCaught, "moleOf(.., 0), when one is caught", (x, m) -> x.moleOf(m, 0), INDEX, 3);
        refusedFor(Edges::busy, "moleOf(.., 7)", (x, m) -> x.moleOf(m, 7), INDEX, 2, -1);
        refusedFor(Edges::busy, "moleOf(.., -1)", (x, m) -> x.moleOf(m, -1), INDEX, 2, -1);
    }

    private static void moleOfNoWhat() {
        refusedFor(Edges::busy, "moleOf(0, ..)", (x, w) -> x.moleOf(0, w), ARGUMENT, -1, 7, LEAST, MOST);
        refusedFor(Edges::fourMoles, "moleOf(3, ..)", (x, w) -> x.moleOf(3, w), ARGUMENT, -1, 7);
    }

    // ---- promise 20

    private static void tunnelWhich() {
        MolesLawn x = rowOfMounds(3);
        due("the lowest number", x.tunnel(0, 0), 0);
        due("the highest number", x.tunnel(2, 0), 4);
        due("the highest of 480", crowd().tunnel(479, 0), 1);
    }

    private static void tunnelEnds() {
        MolesLawn x = rowOfMounds(2);
        due("its first tuft", x.tunnel(1, 0), 2);
        due("its last tuft", x.tunnel(1, 1), 4);
        walk(x, 0, WEST, WEST);
        due("its first tuft, turned round", x.tunnel(2, 0), 4);
        due("its last tuft, turned round", x.tunnel(2, 1), 2);
    }

    private static void tunnelLength() {
        MolesLawn x = new MolesLawn();
        x.mole(0);
        x.mole(1);
        walk(x, 0, EAST);
        due("the shortest", x.tunnel(0, 2), 2);
        due("with tufts that occur twice", loop().tunnel(0, 2), 9);
        MolesLawn y = new MolesLawn();
        y.set(20);
        y.mole(0);
        for (int i = 0; i < 20; i++) {
            y.plan(0, i == 0 || i % 2 == 1 && i < 19 ? EAST : i == 19 ? SOUTH : WEST);
        }
        y.pass(20);
        due("of one breath", y.tunnel(0, 2), 21);
    }

    private static void tunnelNoTunnel() {
        for (int what = 0; what <= 2; what++) {
            int which = what;
            refusedFor(Edges::busy, "tunnel(.., " + what + ")", (x, k) -> x.tunnel(k, which), INDEX, 3, -1);
        }
        refusedFor(Edges::empty, "tunnel(.., 0)", (x, k) -> x.tunnel(k, 0), INDEX, 0, -1, LEAST, MOST);
        refusedFor(EdgeLooksTest::trailOnly, "tunnel(.., 0), with a trail alone", (x, k) -> x.tunnel(k, 0), INDEX, 0);
        refusedFor(Edges::busy, "tunnel(.., 3)", (x, k) -> x.tunnel(k, 3), INDEX, 3, -1);
        refusedFor(EdgeLooksTest::fallenIn, "tunnel(.., 0), when one fell in", (x, k) -> x.tunnel(k, 0), INDEX, 1);
    }

    private static MolesLawn fallenIn() {
        MolesLawn x = rowOfMounds(2);
        x.dig(1);
        return x;
    }

    private static void tunnelNoWhat() {
        refusedFor(Edges::busy, "tunnel(0, ..)", (x, w) -> x.tunnel(0, w), ARGUMENT, -1, 3, LEAST, MOST);
        refusedFor(Edges::busy, "tunnel(2, ..)", (x, w) -> x.tunnel(2, w), ARGUMENT, -1, 3);
    }

    // ---- promise 21

    private static void cellWhich() {
        MolesLawn x = rowOfMounds(3);
        due("of the lowest number", x.cell(0, 1), 1);
        due("of the highest number", x.cell(2, 1), 5);
        due("of the highest of 480", crowd().cell(479, 1), 0);
    }

    private static void cellPlaces() {
        MolesLawn x = rowOfMounds(2);
        due("the place 0", x.cell(0, 0), 0);
        due("the place 0", x.cell(1, 0), 2);
        due("a place beyond", x.cell(1, 1000), NONE);
    }

    private static void cellReturns() {
        MolesLawn x = loop();
        int[] tufts = {0, 1, 2, 10, 9, 1, 2, 3, 4};
        for (int i = 0; i < tufts.length; i++) {
            due("cell(0, " + i + ")", x.cell(0, i), tufts[i]);
        }
        due("one place too far", x.cell(0, 9), NONE);
        due("the farthest place", x.cell(0, MOST), NONE);
        // Not what the next tunnel has, nor what one that is gone had.
        MolesLawn y = rowOfMounds(2);
        due("one place too far in the first of two", y.cell(0, 3), NONE);
        due("one place too far in the second", y.cell(1, 3), NONE);
        y.dig(3);
        due("one place too far where one is gone", y.cell(0, 3), NONE);
    }

    private static void cellNoTunnel() {
        refusedFor(Edges::busy, "cell(.., 0)", (x, k) -> x.cell(k, 0), INDEX, 3, -1, LEAST, MOST);
        refusedFor(Edges::empty, "cell(.., 0)", (x, k) -> x.cell(k, 0), INDEX, 0, -1);
        refusedFor(Edges::busy, "cell(.., -1)", (x, k) -> x.cell(k, -1), INDEX, 3, -1);
        refusedFor(EdgeLooksTest::fallenIn, "cell(.., 0), when one fell in", (x, k) -> x.cell(k, 0), INDEX, 1);
    }

    private static void cellNoPlace() {
        refusedFor(Edges::busy, "cell(0, ..)", (x, p) -> x.cell(0, p), ARGUMENT, -1, -2, LEAST);
        refusedFor(Edges::busy, "cell(2, ..)", (x, p) -> x.cell(2, p), ARGUMENT, -1, -4, LEAST);
    }

    // ---- promise 22

    private static void countBeats() {
        MolesLawn x = new MolesLawn();
        dueCount(x, 0, 0);
        x.pass(30);
        x.pass(1);
        dueCount(x, 0, 31);
        x.ifPassed(30, 0);
        x.nextMound();
        dueCount(x, 0, 31);
        x.undo();
        dueCount(x, 0, 30);
    }

    private static void countMoles() {
        MolesLawn x = new MolesLawn();
        for (int i = 0; i < 4; i++) {
            dueCount(x, 1, i);
            x.mole(0);
        }
        dueCount(x, 1, 4);
        x.dig(0);
        dueCount(x, 1, 0);
    }

    private static void countCaught() {
        MolesLawn x = fourMoles();
        dueCount(x, 2, 0);
        x.trap(1, 0);
        walk(x, 0, EAST);
        due("by a trap", x.count(2), 1);
        x.dig(9);
        due("by digging", x.count(2), 2);
        x.ifDug(18, 1);
        x.mole(18);
        x.dig(18);
        due("two by digging", x.count(2), 4);
        x.undo();
        due("undone", x.count(2), 2);
    }

    private static void countMounds() {
        dueCount(new MolesLawn(), 3, 0);
        MolesLawn x = moundsEverywhere();
        dueCount(x, 3, 64);
        x.rake(63);
        dueCount(x, 3, 63);
        x.dig(0);
        dueCount(x, 3, 62);
        x.dig(0);
        dueCount(x, 3, 62);
    }

    private static void countTunnels() {
        dueCount(new MolesLawn(), 4, 0);
        dueCount(trailOnly(), 4, 0);
        dueCount(rowOfMounds(3), 4, 3);
        dueCount(crowd(), 4, 480);
    }

    private static void countHollow() {
        dueCount(new MolesLawn(), 5, 0);
        due("a tuft twice", loop().count(5), 7);
        due("480 tunnels of two tufts", crowd().count(5), 2);
        due("mounds alone", moundsEverywhere().count(5), 0);
        due("all", hollowEverywhere().count(5), 64);
    }

    private static void countOpened() {
        MolesLawn x = new MolesLawn();
        dueCount(x, 6, 0);
        for (int t = 0; t < 64; t++) {
            x.dig(t);
            dueCount(x, 6, t + 1);
        }
        x.dig(5);
        dueCount(x, 6, 64);
    }

    private static void countTraps() {
        MolesLawn x = new MolesLawn();
        dueCount(x, 7, 0);
        for (int t = 0; t < 64; t++) {
            x.trap(t, t % 21);
        }
        dueCount(x, 7, 64);
        x.pass(30);
        due("set ones, too", x.count(7), 64);
        x.dig(0);
        dueCount(x, 7, 63);
        x.mole(0);
        walk(x, 0, EAST);
        dueCount(x, 7, 62);
    }

    private static void countRoots() {
        MolesLawn x = new MolesLawn();
        dueCount(x, 8, 0);
        for (int t = 0; t < 64; t++) {
            x.root(t, 1 + t % 9);
        }
        dueCount(x, 8, 64);
        x.root(63, 0);
        dueCount(x, 8, 63);
        x.dig(1);
        dueCount(x, 8, 62);
        x.root(8, 0);
        x.mole(8);
        x.plan(0, NORTH);
        x.pass(1);
        due("gnawed through", x.count(8), 60);
    }

    private static void countGnawed() {
        MolesLawn x = new MolesLawn();
        x.mole(0);
        x.mole(2);
        x.root(1, 5);
        x.plan(0, EAST);
        x.plan(1, WEST);
        dueCount(x, 9, 0);
        x.pass(1);
        due("by two in a beat", x.count(9), 2);
        x.pass(2);
        due("the root had five", x.count(9), 5);
        x.pass(5);
        dueCount(x, 9, 5);
        x.root(9, 4);
        x.root(9, 1);
        x.dig(9);
        due("by moles alone", x.count(9), 5);
        x.undo();
        x.undo();
        x.undo();
        x.undo();
        due("undone", x.count(9), 5);
        x.undo();
        due("undone", x.count(9), 2);
    }

    private static void countRisen() {
        MolesLawn x = new MolesLawn();
        dueCount(x, 10, 0);
        x.set(2);
        x.mole(0);
        x.mole(0);
        due("by a mole who came", x.count(10), 1);
        walk(x, 0, EAST, EAST);
        due("by one pushed up", x.count(10), 2);
        walk(x, 0, EAST);
        x.dig(2);
        due("by one whose trail was dug", x.count(10), 3);
        due("two of these are left", x.count(3), 2);
        x.ifPassed(30, 0);
        x.ifDug(3, 2);
        walk(x, 0, WEST, EAST);
        due("a mound to which one goes does not come up", x.count(10), 3);
        x.dig(0);
        x.dig(3);
        due("nor is one taken off that is gone", x.count(10), 3);
        dueCount(x, 3, 0);
    }

    private static void countFallen() {
        MolesLawn x = rowOfMounds(3);
        dueCount(x, 11, 0);
        x.rake(2);
        due("put together", x.count(11), 0);
        x.rake(0);
        due("by raking", x.count(11), 1);
        x.ifDug(5, 0);
        x.dig(5);
        due("by digging", x.count(11), 2);
        MolesLawn y = rowOfMounds(1);
        y.mole(1);
        due("split", y.count(11), 0);
        MolesLawn z = crowd();
        z.dig(1);
        due("480 at once", z.count(11), 480);
    }

    private static void countGroups() {
        due("without mounds", new MolesLawn().count(12), 0);
        due("a mound without tunnels", trailOnly().count(12), 1);
        due("64 mounds without tunnels", moundsEverywhere().count(12), 64);
        due("64 mounds in a row", chain().count(12), 1);
        MolesLawn x = rowOfMounds(3);
        due("four in a row", x.count(12), 1);
        walk(x, 0, WEST, WEST);
        due("a second tunnel between two joins none", x.count(12), 1);
        x.dig(3);
        due("fallen apart", x.count(12), 2);
        x.mole(63);
        due("and one by itself", x.count(12), 3);
        due("480 tunnels between two", crowd().count(12), 1);
        // Two tunnels between two mounds, the first of which goes to the tuft 0, or from there.
        MolesLawn z = new MolesLawn();
        z.mole(0);
        z.mole(2);
        walk(z, 1, WEST, WEST);
        walk(z, 1, EAST, EAST);
        walk(z, 0, EAST, EAST);
        dueCount(z, 4, 3);
        dueCount(z, 12, 1);
        // A mole on the way with its trail joins nothing yet.
        MolesLawn y = new MolesLawn();
        y.mole(0);
        y.mole(3);
        walk(y, 0, EAST, EAST);
        dueCount(y, 12, 2);
        walk(y, 0, EAST);
        dueCount(y, 12, 1);
    }

    private static void countSetting() {
        MolesLawn x = new MolesLawn();
        dueCount(x, 13, 6);
        x.set(2);
        dueCount(x, 13, 2);
        x.set(20);
        dueCount(x, 13, 20);
        x.undo();
        dueCount(x, 13, 2);
    }

    private static void countSaved() {
        MolesLawn x = new MolesLawn();
        for (int i = 0; i < 10; i++) {
            dueCount(x, 14, Math.min(i, 6));
            x.root(0, 1);
        }
        dueCount(x, 14, 6);
        x.undo();
        dueCount(x, 14, 5);
        x.keep();
        x.append('0');
        dueCount(x, 14, 5);
        x.restore();
        dueCount(x, 14, 6);
    }

    private static void countNoWhat() {
        refusedFor(Edges::busy, "count", MolesLawn::count, ARGUMENT, -1, 15, LEAST, MOST);
        refusedFor(Edges::empty, "count", MolesLawn::count, ARGUMENT, -1, 15);
    }

    public static void main(String[] args) {
        promise18();
        promise19();
        promises20And21();
        promise22();
        finish();
    }

    private static void promise18() {
        part("Promise 18: tuft");
        edge("- `tuft`: 0 to 63", EdgeLooksTest::tuftAtTheEnds);
        edge("0: 1 if it has a mound, otherwise 0;", EdgeLooksTest::tuftMound);
        edge("1: the strength of its root, 0 without one;", EdgeLooksTest::tuftRoot);
        edge("2: the wait of its trap, NONE without one;", EdgeLooksTest::tuftTrap);
        edge("3: 1 if it is hollow, otherwise 0;", EdgeLooksTest::tuftHollow);
        edge("4: its number;", EdgeLooksTest::tuftNumber);
        edge("5: 1 if it is opened, otherwise 0;", EdgeLooksTest::tuftOpened);
        edge("6: 1 if it is hollow for sure or known to be hollow, 0 if it is known or sure that it is not, NONE"
                + " otherwise;", EdgeLooksTest::tuftSure);
        edge("7: tunnels in which it occurs;", EdgeLooksTest::tuftTunnels);
        edge("8: moles who are there", EdgeLooksTest::tuftMoles);
        edge("Throws `IndexOutOfBoundsException` if there is no such tuft", EdgeLooksTest::tuftNoTuft);
        edge("Throws `IllegalArgumentException` if what is not 0 to 8", EdgeLooksTest::tuftNoWhat);
    }

    private static void promise19() {
        part("Promise 19: moleOf");
        edge("- `mole`: its number", EdgeLooksTest::moleOfWhom);
        edge("0: the tuft where it is;", EdgeLooksTest::molePlace);
        edge("1: its air;", EdgeLooksTest::moleAir);
        edge("2: the directions of its plan, how many;", EdgeLooksTest::molePlan);
        edge("3: the first of these, NONE without any;", EdgeLooksTest::moleFirst);
        edge("4: the tuft where its trail begins;", EdgeLooksTest::moleBegins);
        edge("5: the tufts of its trail, how many;", EdgeLooksTest::moleTrail);
        edge("6: steps that it went so far", EdgeLooksTest::moleSteps);
        edge("Throws `IndexOutOfBoundsException` if there is no such mole", EdgeLooksTest::moleOfNoMole);
        edge("Throws `IllegalArgumentException` if what is not 0 to 6", EdgeLooksTest::moleOfNoWhat);
    }

    private static void promises20And21() {
        part("Promise 20: tunnel");
        edge("- `tunnel`: its number", EdgeLooksTest::tunnelWhich);
        edge("0: its first tuft; 1: its last tuft;", EdgeLooksTest::tunnelEnds);
        edge("2: how many tufts it has", EdgeLooksTest::tunnelLength);
        edge("Throws `IndexOutOfBoundsException` if there is no such tunnel", EdgeLooksTest::tunnelNoTunnel);
        edge("Throws `IllegalArgumentException` if what is not 0 to 2", EdgeLooksTest::tunnelNoWhat);
        part("Promise 21: cell");
        edge("- `tunnel`: its number", EdgeLooksTest::cellWhich);
        edge("- `place`: 0 or more", EdgeLooksTest::cellPlaces);
        edge("Returns the tuft at this place of its row, from 0; NONE if it has not so many.",
                EdgeLooksTest::cellReturns);
        edge("Throws `IndexOutOfBoundsException` if there is no such tunnel", EdgeLooksTest::cellNoTunnel);
        edge("Throws `IllegalArgumentException` if place is below 0", EdgeLooksTest::cellNoPlace);
    }

    private static void promise22() {
        part("Promise 22: count");
        edge("0: beats so far;", EdgeLooksTest::countBeats);
        edge("1: moles;", EdgeLooksTest::countMoles);
        edge("2: moles caught so far;", EdgeLooksTest::countCaught);
        edge("3: mounds;", EdgeLooksTest::countMounds);
        edge("4: tunnels;", EdgeLooksTest::countTunnels);
        edge("5: hollow tufts;", EdgeLooksTest::countHollow);
        edge("6: opened tufts;", EdgeLooksTest::countOpened);
        edge("7: traps;", EdgeLooksTest::countTraps);
        edge("8: roots;", EdgeLooksTest::countRoots);
        edge("9: tries by which a root was gnawed so far;", EdgeLooksTest::countGnawed);
        edge("10: mounds that came up so far;", EdgeLooksTest::countRisen);
        edge("11: tunnels that fell in so far, by digging and raking;", EdgeLooksTest::countFallen);
        edge("12: groups of mounds that are joined by tunnels (a mound without tunnels is a group by itself);",
                EdgeLooksTest::countGroups);
        edge("13: the setting 0;", EdgeLooksTest::countSetting);
        edge("14: saved states", EdgeLooksTest::countSaved);
        edge("Throws `IllegalArgumentException` if what is not 0 to 14", EdgeLooksTest::countNoWhat);
    }
}
