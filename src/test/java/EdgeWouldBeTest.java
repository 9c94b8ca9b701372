import java.util.ArrayList;
import java.util.List;

/** The promises 23 to 30, what would be: each sentence that names a boundary has a test of its own. */
public final class EdgeWouldBeTest extends Edges {

    // ---- promise 23

    private static void joinedWhich() {
        MolesLawn x = new MolesLawn();
        x.mole(0);
        x.mole(63);
        due("joined(0, 0)", x.joined(0, 0), 1);
        due("joined(63, 63)", x.joined(63, 63), 1);
        due("joined(0, 63)", x.joined(0, 63), 0);
        due("joined(63, 0)", x.joined(63, 0), 0);
    }

    private static void joinedReturns() {
        MolesLawn x = rowOfMounds(3);
        x.mole(63);
        int[] mounds = {0, 2, 4, 6};
        for (int a : mounds) {
            for (int b : mounds) {
                due("joined(" + a + ", " + b + ")", x.joined(a, b), 1);
            }
            due("joined(" + a + ", 63)", x.joined(a, 63), 0);
            due("joined(" + a + ", 1), to a tuft in a tunnel", x.joined(a, 1), 0);
            due("joined(1, " + a + ")", x.joined(1, a), 0);
        }
        due("joined(1, 1), the same, but no mound", x.joined(1, 1), 0);
        due("joined(1, 3)", x.joined(1, 3), 0);
        due("joined(50, 50)", x.joined(50, 50), 0);
        x.dig(3);
        due("joined(0, 6), when one fell in between", x.joined(0, 6), 0);
        due("joined(4, 6)", x.joined(4, 6), 1);
        due("joined(2, 0)", x.joined(2, 0), 1);
        // By trails none is joined.
        MolesLawn y = new MolesLawn();
        y.mole(0);
        y.mole(2);
        walk(y, 0, EAST);
        due("joined(0, 2)", y.joined(0, 2), 0);
        walk(y, 0, EAST);
        due("joined(0, 2)", y.joined(0, 2), 1);
        due("from end to end of 63", chain().joined(0, 56), 1);
        due("back", chain().joined(56, 0), 1);
        due("64 mounds, none joined", moundsEverywhere().joined(0, 1), 0);
    }

    private static void joinedNoTuft() {
        refusedFor(Edges::busy, "joined(.., 0)", (x, t) -> x.joined(t, 0), INDEX, -1, 64, LEAST, MOST);
        refusedFor(Edges::busy, "joined(0, ..)", (x, t) -> x.joined(0, t), INDEX, -1, 64, LEAST, MOST);
        refusedFor(Edges::empty, "joined(.., ..)", (x, t) -> x.joined(t, t), INDEX, -1, 64);
        refusedFor(Edges::empty, "joined(5, ..), without a mound at 5", (x, t) -> x.joined(5, t), INDEX, -1, 64);
    }

    // ---- promise 24

    private static void fewestWhich() {
        MolesLawn x = new MolesLawn();
        x.mole(0);
        x.mole(63);
        due("fewest(0, 0)", x.fewest(0, 0), 0);
        due("fewest(63, 63)", x.fewest(63, 63), 0);
        due("fewest(0, 63)", x.fewest(0, 63), NONE);
        due("fewest(63, 0)", x.fewest(63, 0), NONE);
    }

    private static void fewestReturns() {
        MolesLawn x = rowOfMounds(3);
        x.mole(63);
        for (int a = 0; a <= 6; a += 2) {
            for (int b = 0; b <= 6; b += 2) {
                due("fewest(" + a + ", " + b + ")", x.fewest(a, b), a < b ? (b - a) / 2 : (a - b) / 2);
            }
            due("not joined", x.fewest(a, 63), NONE);
            due("to a tuft without a mound", x.fewest(a, 1), NONE);
            due("from a tuft without a mound", x.fewest(1, a), NONE);
        }
        due("the same, without a mound", x.fewest(1, 1), NONE);
        due("the same, without anything", x.fewest(50, 50), NONE);
        due("the most that there can be", chain().fewest(0, 56), 63);
        due("the most, back", chain().fewest(56, 0), 63);
        due("half of them", chain().fewest(24, 56), 32);
        due("480 between two", crowd().fewest(0, 1), 1);
        due("64 mounds, none joined", moundsEverywhere().fewest(0, 1), NONE);
        // A short way that is made last, of one long tunnel, counts one.
        MolesLawn y = rowOfMounds(3);
        y.set(20);
        y.mole(6);
        walk(y, 1, SOUTH, WEST, WEST, WEST, WEST, WEST, WEST, NORTH);
        due("fewest(0, 6)", y.fewest(0, 6), 1);
        due("fewest(6, 0)", y.fewest(6, 0), 1);
        due("fewest(0, 4)", y.fewest(0, 4), 2);
        due("fewest(2, 6)", y.fewest(2, 6), 2);
        y.dig(9);
        due("fewest(0, 6), when it fell in", y.fewest(0, 6), 3);
    }

    private static void fewestNoTuft() {
        refusedFor(Edges::busy, "fewest(.., 0)", (x, t) -> x.fewest(t, 0), INDEX, -1, 64, LEAST, MOST);
        refusedFor(Edges::busy, "fewest(0, ..)", (x, t) -> x.fewest(0, t), INDEX, -1, 64, LEAST, MOST);
        refusedFor(Edges::empty, "fewest(.., ..)", (x, t) -> x.fewest(t, t), INDEX, -1, 64);
        refusedFor(Edges::empty, "fewest(5, ..), without a mound at 5", (x, t) -> x.fewest(5, t), INDEX, -1, 64);
    }

    // ---- promise 25

    private static void ifDugWhere() {
        MolesLawn x = new MolesLawn();
        x.mole(0);
        x.mole(63);
        x.mole(63);
        due("ifDug(0, 1)", x.ifDug(0, 1), 1);
        due("ifDug(63, 1)", x.ifDug(63, 1), 2);
        due("ifDug(62, 1)", x.ifDug(62, 1), 0);
    }

    private static void ifDugTunnels() {
        due("of none", new MolesLawn().ifDug(0, 0), 0);
        due("a trail is none", onTheWay().ifDug(1, 0), 0);
        due("one that has the tuft twice", loop().ifDug(1, 0), 1);
        due("480 at once", crowd().ifDug(1, 0), 480);
        MolesLawn x = rowOfMounds(3);
        due("where two end", x.ifDug(2, 0), 2);
        due("in the middle of one", x.ifDug(3, 0), 1);
        due("elsewhere", x.ifDug(63, 0), 0);
        x.dig(1);
        due("those that fell in before do not count", x.ifDug(4, 0), 2);
        due("where one was dug already", x.ifDug(1, 0), 0);
        // A new mound splits: the more tunnels are no fewer that fall in.
        MolesLawn y = rowOfMounds(1);
        y.mole(9);
        walk(y, 1, NORTH);
        due("ifDug(9, 0)", y.ifDug(9, 0), 0);
        y.dig(9);
        dueCount(y, 4, 2);
    }

    private static MolesLawn onTheWay() {
        MolesLawn x = new MolesLawn();
        x.mole(0);
        walk(x, 0, EAST, EAST);
        return x;
    }

    private static void ifDugMoles() {
        for (int many = 0; many <= 4; many++) {
            MolesLawn x = new MolesLawn();
            for (int i = 0; i < many; i++) {
                x.mole(27);
            }
            due("of " + many, x.ifDug(27, 1), many);
            x.dig(27);
            due("those that were caught before do not count", x.ifDug(27, 1), 0);
        }
        MolesLawn y = onTheWay();
        due("where its trail goes through", y.ifDug(1, 1), 0);
        due("where its trail begins", y.ifDug(0, 1), 0);
        due("where it is", y.ifDug(2, 1), 1);
    }

    private static void ifDugHollow() {
        due("of none", new MolesLawn().ifDug(0, 2), 0);
        MolesLawn x = onTheWay();
        due("of a trail its last tuft is left", x.ifDug(1, 2), 1);
        due("where it begins", x.ifDug(0, 2), 1);
        due("where its mole is", x.ifDug(2, 2), 0);
        due("elsewhere", x.ifDug(3, 2), 3);
        MolesLawn y = rowOfMounds(3);
        due("of three tunnels one is left, and the mole's tuft", y.ifDug(2, 2), 3);
        due("at a mound alone", moundsEverywhere().ifDug(5, 2), 0);
        due("of all", hollowEverywhere().count(5), 64);
        // The mole's trail, 59 58 57 56, would be gone, but at 59 a tunnel ends.
        due("of all, at the mole's own tuft", hollowEverywhere().ifDug(56, 2), 61);
        // A new mound that would come up at 2 takes the way round off another mole's trail.
        MolesLawn z = new MolesLawn();
        z.set(20);
        z.mole(0);
        z.mole(3);
        walk(z, 0, EAST, EAST);
        walk(z, 1, WEST, SOUTH, WEST, NORTH, EAST);
        dueMole(z, 1, 2, 15, 0, NONE, 3, 6, 5);
        dueCount(z, 5, 6);
        due("ifDug(0, 2)", z.ifDug(0, 2), 2);
    }

    private static void ifDugNoTuft() {
        for (int what = 0; what <= 2; what++) {
            int which = what;
            refusedFor(Edges::busy, "ifDug(.., " + what + ")", (x, t) -> x.ifDug(t, which), INDEX, -1, 64, LEAST, MOST);
        }
        refusedFor(Edges::empty, "ifDug(.., 0)", (x, t) -> x.ifDug(t, 0), INDEX, -1, 64);
        refusedFor(Edges::busy, "ifDug(.., 3)", (x, t) -> x.ifDug(t, 3), INDEX, -1, 64);
        refusedFor(Edges::busy, "ifDug(.., -1)", (x, t) -> x.ifDug(t, -1), INDEX, -1, 64);
    }

    private static void ifDugNoWhat() {
        refusedFor(Edges::busy, "ifDug(2, ..)", (x, w) -> x.ifDug(2, w), ARGUMENT, -1, 3, LEAST, MOST);
        refusedFor(Edges::empty, "ifDug(63, ..)", (x, w) -> x.ifDug(63, w), ARGUMENT, -1, 3);
    }

    // ---- promise 26

    private static void bestDig() {
        due("none", new MolesLawn().bestDig(), NONE);
        due("trails alone", onTheWay().bestDig(), NONE);
        due("mounds alone", moundsEverywhere().bestDig(), NONE);
        MolesLawn x = rowOfMounds(3);
        due("of 2 and 4 the lower one", x.bestDig(), 2);
        x.dig(5);
        due("2 alone has two", x.bestDig(), 2);
        x.dig(1);
        due("at least 1: one tunnel is left, 2 3 4", x.bestDig(), 2);
        x.dig(3);
        due("none is left", x.bestDig(), NONE);
        due("one that has the tuft 1 twice: 0 is the lowest", loop().bestDig(), 0);
        due("480 at once", crowd().bestDig(), 0);
    }

    private static void bestDigOpened() {
        // The most would fall in at 2, which was opened before the mounds came up.
        MolesLawn x = new MolesLawn();
        x.dig(2);
        x.set(2);
        x.mole(0);
        walk(x, 0, EAST, EAST, EAST, EAST);
        due("ifDug(2, 0)", x.ifDug(2, 0), 2);
        due("one is as good as the other, but 2", x.bestDig(), 0);
        // The highest tuft alone is not opened.
        MolesLawn y = new MolesLawn();
        y.dig(62);
        y.mole(62);
        y.mole(63);
        walk(y, 0, EAST);
        due("63 alone", y.bestDig(), 63);
        MolesLawn z = new MolesLawn();
        z.dig(62);
        z.dig(63);
        z.mole(62);
        z.mole(63);
        walk(z, 0, EAST);
        due("tunnels", z.count(4), 1);
        due("all that it has are opened", z.bestDig(), NONE);
    }

    // ---- promise 27

    // A mound comes up in each second beat up to the 20th; the other mole goes into a trap in the first one.
    private static MolesLawn beatsToCome() {
        MolesLawn x = new MolesLawn();
        x.set(2);
        x.mole(0);
        type(x, "0:eeeeeeesssssssnwwwws");
        x.plans();
        x.mole(40);
        x.plan(1, EAST);
        x.trap(41, 1);
        return x;
    }

    private static void ifPassedBeats() {
        MolesLawn x = beatsToCome();
        int[] beats = {1, 2, 3, 19, 20, 30};
        int[] mounds = {0, 1, 1, 9, 10, 10};
        for (int i = 0; i < beats.length; i++) {
            due("ifPassed(" + beats[i] + ", 0)", x.ifPassed(beats[i], 0), mounds[i]);
        }
        // In the 29th beat nothing, in the 30th a mound.
        MolesLawn y = lastOfThirty();
        due("ifPassed(29, 0)", y.ifPassed(29, 0), 0);
        due("ifPassed(30, 0)", y.ifPassed(30, 0), 1);
        due("pass(30)", y.pass(30), 1);
    }

    // Two mounds with roots of 9 behind them, 20 beats; then 8 beyond the lawn, and two steps.
    private static MolesLawn lastOfThirty() {
        MolesLawn x = new MolesLawn();
        x.set(2);
        x.trap(9, 0);
        x.mole(1);
        walk(x, 0, SOUTH);
        x.trap(10, 0);
        x.mole(2);
        walk(x, 0, SOUTH);
        x.root(1, 9);
        x.root(2, 9);
        x.mole(0);
        type(x, "0:eennnnnnnnee");
        x.plans();
        return x;
    }

    private static void ifPassedMounds() {
        due("none", new MolesLawn().ifPassed(30, 0), 0);
        MolesLawn x = beatsToCome();
        x.pass(20);
        due("those that came up before do not count", x.ifPassed(30, 0), 0);
        MolesLawn y = new MolesLawn();
        y.set(2);
        y.mole(0);
        y.mole(16);
        type(y, "0:ee;1:ee");
        y.plans();
        due("two in one beat", y.ifPassed(2, 0), 2);
        due("as pass tells", y.pass(2), 2);
    }

    private static void ifPassedTunnels() {
        due("none", new MolesLawn().ifPassed(1, 1), 0);
        MolesLawn x = rowOfMounds(2);
        due("those that there are", x.ifPassed(1, 1), 2);
        x.plan(0, EAST);
        x.plan(0, EAST);
        due("not yet", x.ifPassed(1, 1), 2);
        due("and one more", x.ifPassed(2, 1), 3);
        due("480", crowd().ifPassed(30, 1), 480);
        // Of one that a mound would split come two.
        MolesLawn y = rowOfMounds(1);
        y.mole(17);
        type(y, "1:nn");
        y.plans();
        due("split, and one by the mole", y.ifPassed(2, 1), 3);
        due("mounds", y.ifPassed(2, 0), 1);
    }

    private static void ifPassedMoles() {
        due("none", new MolesLawn().ifPassed(1, 2), 0);
        MolesLawn x = fourMoles();
        for (int i = 0; i < 4; i++) {
            x.trap(9 * i + 1, 0);
            x.plan(i, EAST);
        }
        due("all four in one beat", x.ifPassed(1, 2), 4);
        due("and none behind them", x.ifPassed(30, 2), 4);
        x.pass(1);
        due("those that were caught before do not count", x.ifPassed(30, 2), 0);
        MolesLawn y = beatsToCome();
        due("by a trap that becomes set in the same beat", y.ifPassed(1, 2), 1);
    }

    private static void ifPassedRefused() {
        for (int what = 0; what <= 2; what++) {
            int which = what;
            refusedFor(Edges::busy, "ifPassed(.., " + what + ")", (x, b) -> x.ifPassed(b, which), ARGUMENT, 0, 31, -1,
                    LEAST, MOST);
        }
        refusedFor(Edges::busy, "ifPassed(1, ..)", (x, w) -> x.ifPassed(1, w), ARGUMENT, -1, 3, LEAST, MOST);
        refusedFor(Edges::busy, "ifPassed(30, ..)", (x, w) -> x.ifPassed(30, w), ARGUMENT, -1, 3);
        refusedFor(Edges::busy, "ifPassed(.., 3)", (x, b) -> x.ifPassed(b, 3), ARGUMENT, 0, 31);
        refusedFor(Edges::empty, "ifPassed(.., 0)", (x, b) -> x.ifPassed(b, 0), ARGUMENT, 0, 31);
    }

    // ---- promise 28

    // Nine mounds on the way, each with a root of 9: ten beats each; then two steps, with the air 2. Before that
    // come tries that lead beyond the lawn.
    private static MolesLawn farMound(int beyond) {
        MolesLawn x = new MolesLawn();
        x.set(2);
        for (int t : new int[] {1, 2, 3, 4, 5, 6, 7, 15, 14}) {
            x.mole(t);
            x.trap(t + 8, 0);
            walk(x, 0, SOUTH);
            x.root(t, 9);
        }
        x.mole(0);
        for (int i = 0; i < beyond; i++) {
            x.plan(0, NORTH);
        }
        type(x, "0:eeeeeeeswww");
        x.plans();
        return x;
    }

    private static void onlyBeats() {
        // A set trap on the way: it would never come up; one that is not set yet lets the mole go on.
        for (int wait = 0; wait <= 3; wait++) {
            MolesLawn x = new MolesLawn();
            x.set(2);
            x.mole(0);
            x.trap(2, wait);
            type(x, "0:ee");
            x.plans();
            due("with the wait " + wait, x.nextMound(), wait <= 2 ? NONE : 2);
        }
        // The plan ends before the air; or it leads to a mound.
        MolesLawn y = new MolesLawn();
        y.mole(0);
        type(y, "0:eeeee");
        y.plans();
        due("a step too few", y.nextMound(), NONE);
        y.plan(0, SOUTH);
        due("just enough", y.nextMound(), 6);
        y.mole(13);
        due("to a mound", y.nextMound(), NONE);
    }

    private static void nextMoundReturns() {
        due("no moles", new MolesLawn().nextMound(), NONE);
        due("no plans", fourMoles().nextMound(), NONE);
        MolesLawn x = new MolesLawn();
        x.set(2);
        x.mole(0);
        type(x, "0:eeee");
        x.plans();
        due("in the second beat", x.nextMound(), 2);
        x.pass(1);
        due("in the next beat", x.nextMound(), 1);
        x.pass(1);
        due("the one that is there does not count", x.nextMound(), 2);
        due("in the hundredth", farMound(8).nextMound(), 100);
        due("in the 99th", farMound(7).nextMound(), 99);
        MolesLawn y = farMound(9);
        due("in the 101st", y.nextMound(), NONE);
        y.pass(1);
        due("a beat later", y.nextMound(), 100);
        // Of two moles the one who pushes up first, whichever it is.
        for (int first = 0; first <= 1; first++) {
            MolesLawn z = new MolesLawn();
            z.set(3);
            z.mole(0);
            z.mole(16);
            walk(z, first, EAST);
            type(z, "0:eee;1:eee");
            z.plans();
            due("of two", z.nextMound(), 2);
        }
    }

    // ---- promise 29

    private static void shares() {
        dueShare(new MolesLawn(), 0.0);
        dueShare(moundsEverywhere(), 0.0);
        MolesLawn x = new MolesLawn();
        x.mole(63);
        dueShare(x, 0.015625);
        MolesLawn y = new MolesLawn();
        y.set(20);
        y.mole(0);
        for (int i = 0; i < 63; i++) {
            walk(y, 0, wayOverAll(i));
            dueShare(y, (i + 2) * 0.015625);
        }
        dueShare(y, 1.0);
        dueShare(crowd(), 0.03125);
    }

    // ---- promise 30

    /** What the document's list says, each value looked at by its own call, on lawns that are made alike. */
    private static List<Long> listOf(Maker maker, String buffer) {
        List<Call> looks = new ArrayList<>();
        for (int what = 0; what <= 14; what++) {
            int which = what;
            looks.add(x -> x.count(which));
        }
        for (int t = 0; t < 64; t++) {
            for (int what = 0; what <= 8; what++) {
                int tuft = t;
                int which = what;
                looks.add(x -> x.tuft(tuft, which));
            }
        }
        looksAtMolesAndTunnels(maker, looks);
        looksAhead(maker, looks);
        List<Long> list = new ArrayList<>();
        MolesLawn x = maker.make();
        for (int i = 0; i < looks.size(); i++) {
            if (i % 150 == 149) {
                x = maker.make();
            }
            list.add(looks.get(i).on(x));
        }
        list.add((long) buffer.length());
        for (char code : buffer.toCharArray()) {
            list.add((long) code);
        }
        return list;
    }

    private static void looksAtMolesAndTunnels(Maker maker, List<Call> looks) {
        MolesLawn x = maker.make();
        int moles = x.count(1);
        for (int m = 0; m < moles; m++) {
            for (int what = 0; what <= 6; what++) {
                int mole = m;
                int which = what;
                looks.add(y -> y.moleOf(mole, which));
            }
        }
        int tunnels = x.count(4);
        for (int k = 0; k < tunnels; k++) {
            int tunnel = k;
            for (int what = 0; what <= 2; what++) {
                int which = what;
                looks.add(y -> y.tunnel(tunnel, which));
            }
            int tufts = x.tunnel(k, 2);
            for (int p = 0; p < tufts; p++) {
                int place = p;
                looks.add(y -> y.cell(tunnel, place));
            }
        }
    }

    private static void looksAhead(Maker maker, List<Call> looks) {
        MolesLawn x = maker.make();
        int lowest = NONE;
        for (int t = 0; t < 64; t++) {
            if (x.tuft(t, 0) == 1) {
                lowest = lowest == NONE ? t : lowest;
                int to = lowest;
                int from = t;
                looks.add(y -> y.fewest(from, to));
            }
        }
        for (int t = 0; t < 64; t++) {
            int tuft = t;
            looks.add(y -> y.ifDug(tuft, 0));
        }
        looks.add(MolesLawn::bestDig);
        for (int what = 0; what <= 2; what++) {
            int which = what;
            looks.add(y -> y.ifPassed(5, which));
        }
        looks.add(MolesLawn::nextMound);
        looks.add(y -> Double.doubleToLongBits(y.hollowShare()));
    }

    private static long hashOf(List<Long> list) {
        long hash = 3631;
        for (long v : list) {
            hash = 31 * hash + v;
        }
        return hash;
    }

    private static void dueDigest(String name, Maker maker, String buffer) {
        due("digest() of " + name, maker.make().digest(), hashOf(listOf(maker, buffer)));
    }

    private static void digests() {
        dueDigest("an empty lawn", Edges::empty, "");
        dueDigest("a busy lawn", Edges::busy, "1:n;");
        dueDigest("a full buffer", Edges::fullBuffer,
                "0:nesw;1:nesw;2:nesw;3:nesw;0:nesw;1:nesw;2:nesw;3:nesw;0:ne");
        dueDigest("four moles", Edges::fourMoles, "");
        dueDigest("a full plan", Edges::fullPlan, "");
        dueDigest("a loop", Edges::loop, "");
        dueDigest("mounds alone", Edges::moundsEverywhere, "");
        dueDigest("a chain of 63 tunnels", Edges::chain, "");
        dueDigest("all hollow", Edges::hollowEverywhere, "");
        dueDigest("a lawn with beats to come", EdgeWouldBeTest::beatsToCome, "");
        dueDigest("a mound in the hundredth beat", () -> farMound(8), "");
        dueDigest("a mound in the 101st beat", () -> farMound(9), "");
        dueDigest("opened tufts", EdgeWouldBeTest::openedRow, "");
        for (int beat = 4; beat <= 6; beat++) {
            int which = beat;
            dueDigest("a mound in the beat " + beat, () -> moundInBeat(which), "");
        }
        due("the list of the empty lawn", listOf(Edges::empty, "").size(), 15 + 576 + 64 + 6 + 1);
    }

    // The lowest tuft with a mound is 9; one of the others is joined with it.
    private static MolesLawn moundInBeat(int beat) {
        MolesLawn x = new MolesLawn();
        x.set(beat);
        x.mole(11);
        x.mole(9);
        x.mole(62);
        walk(x, 0, WEST, WEST);
        type(x, "0:sssssss");
        x.plans();
        return x;
    }

    private static MolesLawn openedRow() {
        MolesLawn x = rowOfMounds(3);
        for (int t = 8; t <= 15; t++) {
            x.dig(t);
        }
        x.dig(3);
        return x;
    }

    // By hand: fifteen counts; of each tuft two NONE, among seven 0; 64 ifDug; NONE, 0, 0, 0, NONE, 0, 0.
    private static void emptyDigest() {
        long hash = 3631;
        for (int what = 0; what <= 14; what++) {
            hash = 31 * hash + (what == 13 ? 6 : 0);
        }
        for (int t = 0; t < 64; t++) {
            for (int what = 0; what <= 8; what++) {
                hash = 31 * hash + (what == 2 || what == 6 ? -1 : 0);
            }
        }
        for (int i = 0; i < 64; i++) {
            hash = 31 * hash;
        }
        for (int v : new int[] {-1, 0, 0, 0, -1, 0, 0}) {
            hash = 31 * hash + v;
        }
        due("digest() of an empty lawn", new MolesLawn().digest(), hash);
        MolesLawn x = new MolesLawn();
        x.append('!');
        due("digest() with a character", x.digest(), 31 * (hash + 1) + 33);
    }

    private static void digestWhole() {
        // What is not in the list does not count: the snapshot, what is saved, plans behind their first direction.
        MolesLawn x = busy();
        long before = x.digest();
        x.keep();
        due("behind keep()", x.digest(), before);
        due("again", x.digest(), before);
        // What is in it does: a character more, a saved state more.
        x.append('0');
        due("behind append it is another", x.digest() == before ? 1 : 0, 0);
        MolesLawn y = busy();
        y.root(0, 0);
        due("behind a saved state it is another", y.digest() == before ? 1 : 0, 0);
    }

    public static void main(String[] args) {
        promises23To25();
        promises26To30();
        finish();
    }

    private static void promises23To25() {
        part("Promise 23: joined");
        edge("- `tuft`: 0 to 63\n- `other`: 0 to 63", EdgeWouldBeTest::joinedWhich);
        edge("Returns 1 if both have mounds, and they are the same, or joined; otherwise 0.",
                EdgeWouldBeTest::joinedReturns);
        edge("Throws `IndexOutOfBoundsException` if there is no such tuft", EdgeWouldBeTest::joinedNoTuft);
        part("Promise 24: fewest");
        edge("- `tuft`: 0 to 63\n- `other`: 0 to 63", EdgeWouldBeTest::fewestWhich);
        edge("Returns the fewest tunnels, one after the other, from one to the other, 0 if they are the same; NONE if"
                + " they are not joined, or one of both tufts has no mound.", EdgeWouldBeTest::fewestReturns);
        edge("Throws `IndexOutOfBoundsException` if there is no such tuft", EdgeWouldBeTest::fewestNoTuft);
        part("Promise 25: ifDug");
        edge("- `tuft`: 0 to 63", EdgeWouldBeTest::ifDugWhere);
        edge("0: tunnels that would fall in;", EdgeWouldBeTest::ifDugTunnels);
        edge("1: moles that would be caught;", EdgeWouldBeTest::ifDugMoles);
        edge("2: hollow tufts that there would be then", EdgeWouldBeTest::ifDugHollow);
        edge("Throws `IndexOutOfBoundsException` if there is no such tuft", EdgeWouldBeTest::ifDugNoTuft);
        edge("Throws `IllegalArgumentException` if what is not 0 to 2", EdgeWouldBeTest::ifDugNoWhat);
    }

    private static void promises26To30() {
        part("Promise 26: bestDig");
        edge("where the most tunnels would fall in, at least 1; of several the lowest; NONE if there is none.",
                EdgeWouldBeTest::bestDig);
        edge("Returns the tuft, that is not opened,", EdgeWouldBeTest::bestDigOpened);
        part("Promise 27: ifPassed");
        edge("- `beats`: 1 to 30", EdgeWouldBeTest::ifPassedBeats);
        edge("0: mounds that would come up;", EdgeWouldBeTest::ifPassedMounds);
        edge("1: tunnels that there would be then;", EdgeWouldBeTest::ifPassedTunnels);
        edge("2: moles that would be caught", EdgeWouldBeTest::ifPassedMoles);
        edge("Throws `IllegalArgumentException` if beats is out of range, or what is not 0 to 2",
                EdgeWouldBeTest::ifPassedRefused);
        part("Promise 28: nextMound");
        edge("Tells when the next mound comes up, if only beats pass.", EdgeWouldBeTest::onlyBeats);
        edge("Returns behind how many beats, 1 to 100, in the last one of these; NONE if not in 100.",
                EdgeWouldBeTest::nextMoundReturns);
        part("Promise 29: hollowShare");
        edge("Returns the hollow tufts, as a double, divided by 64.", EdgeWouldBeTest::shares);
        part("Promise 30: digest");
        edge("The hash starts at 3631. For each value v of the following list, in order, the hash becomes 31 * hash + v,"
                + " in long arithmetic with overflow.", EdgeWouldBeTest::emptyDigest);
        edge("The values are: count(0) to count(14); for each tuft its numbers 0 to 8; for each mole its numbers 0 to 6;"
                + " for each tunnel its numbers 0 to 2, and each of its tufts; for each tuft with a mound, fewest from it"
                + " to the lowest tuft with a mound; ifDug of each tuft with 0; bestDig; ifPassed of 5 beats with 0 to 2;"
                + " nextMound; the bits of hollowShare (as Double.doubleToLongBits); the length of the buffer and each of"
                + " its character codes.", EdgeWouldBeTest::digests);
        edge("Computes a hash of the whole state.", EdgeWouldBeTest::digestWhole);
    }
}
