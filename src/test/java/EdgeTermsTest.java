import java.util.ArrayList;
import java.util.List;

/** The sentences of the document's terms that name a boundary, each with a test of its own. */
public final class EdgeTermsTest extends Edges {

    // ---- what it is

    // 480 steps on one tunnel's way make as many tunnels; then the calls up to the 512th.
    private static void fiveHundredAndTwelveCalls() {
        MolesLawn x = crowd();
        due("call 507: tunnel(479, 2)", x.tunnel(479, 2), 2);
        due("call 508: cell(479, 0)", x.cell(479, 0), 1);
        due("call 509: cell(479, 1)", x.cell(479, 1), 0);
        due("call 510: fewest(0, 1)", x.fewest(0, 1), 1);
        due("call 511: ifDug(0, 0)", x.ifDug(0, 0), 480);
        due("call 512: count(4)", x.count(4), 480);
        MolesLawn y = new MolesLawn();
        for (int i = 1; i <= 511; i++) {
            y.root(i % 64, i % 10);
        }
        due("call 512: root(63, 0), behind the 511th, root(63, 1)", y.root(63, 0), 1);
    }

    private static void noneIsMinusOne() {
        due("NONE", MolesLawn.NONE, -1);
        MolesLawn x = new MolesLawn();
        x.mole(5);
        due("tuft(0, 2)", x.tuft(0, 2), MolesLawn.NONE);
        due("tuft(0, 6)", x.tuft(0, 6), MolesLawn.NONE);
        due("moleOf(0, 3)", x.moleOf(0, 3), MolesLawn.NONE);
        due("fewest(0, 1)", x.fewest(0, 1), MolesLawn.NONE);
        due("bestDig()", x.bestDig(), MolesLawn.NONE);
        due("nextMound()", x.nextMound(), MolesLawn.NONE);
        due("cell(0, 3)", rowOfMounds(1).cell(0, 3), MolesLawn.NONE);
    }

    // ---- the lawn

    private static void sixtyFourTufts() {
        for (int t = 0; t < 64; t++) {
            MolesLawn x = new MolesLawn();
            due("mole(" + t + ")", x.mole(t), 0);
            due("where it is", x.moleOf(0, 0), t);
            dueTuft(x, t, 0, 1);
            dueCount(x, 3, 1);
            for (int d = 0; d < 4; d++) {
                int row = t / 8 + (d == SOUTH ? 1 : d == NORTH ? -1 : 0);
                int column = t % 8 + (d == EAST ? 1 : d == WEST ? -1 : 0);
                if (row >= 0 && row <= 7 && column >= 0 && column <= 7) {
                    MolesLawn y = new MolesLawn();
                    y.mole(t);
                    walk(y, 0, d);
                    due("from " + t + " in the direction " + d, y.moleOf(0, 0), 8 * row + column);
                }
            }
        }
        refusedAlways("tuft(64, 0)", x -> x.tuft(64, 0), INDEX);
        refusedAlways("tuft(-1, 0)", x -> x.tuft(-1, 0), INDEX);
    }

    private static void directions() {
        int[] there = {19, 28, 35, 26};
        for (int d = 0; d < 4; d++) {
            MolesLawn x = new MolesLawn();
            x.mole(27);
            walk(x, 0, d);
            due("from 27 in the direction " + d, x.moleOf(0, 0), there[d]);
        }
        // At each of the 28 tufts on the border: no way round to the other side.
        for (int i = 0; i < 8; i++) {
            dueNoWay(i, NORTH);
            dueNoWay(56 + i, SOUTH);
            dueNoWay(8 * i, WEST);
            dueNoWay(8 * i + 7, EAST);
        }
    }

    private static void dueNoWay(int tuft, int direction) {
        MolesLawn x = new MolesLawn();
        x.mole(tuft);
        walk(x, 0, direction);
        dueMole(x, 0, tuft, 6, 0, NONE, tuft, 1, 0);
    }

    private static void beside() {
        for (int t = 0; t < 64; t++) {
            MolesLawn x = new MolesLawn();
            x.mole(t);
            int found = 0;
            for (int u = 0; u < 64; u++) {
                boolean near = u / 8 - t / 8 >= -1 && u / 8 - t / 8 <= 1 && u % 8 - t % 8 >= -1 && u % 8 - t % 8 <= 1;
                dueTuft(x, u, 4, near && u != t ? 1 : 0);
                found += x.tuft(u, 4);
            }
            boolean upOrDown = t / 8 == 0 || t / 8 == 7;
            boolean leftOrRight = t % 8 == 0 || t % 8 == 7;
            due("tufts beside " + t, found, upOrDown && leftOrRight ? 3 : upOrDown || leftOrRight ? 5 : 8);
        }
    }

    private static void whatATuftHas() {
        MolesLawn x = new MolesLawn();
        x.mole(9);
        x.root(9, 1);
        x.trap(9, 20);
        dueTuft(x, 9, 0, 1);
        dueTuft(x, 9, 1, 1);
        dueTuft(x, 9, 2, 20);
        due("root(9, 9)", x.root(9, 9), 1);
        dueTuft(x, 9, 1, 9);
        x.trap(10, 0);
        dueTuft(x, 10, 2, 0);
        x.trap(17, 2);
        x.mole(16);
        walk(x, 1, EAST);
        dueCount(x, 1, 2);
        due("the trap with the wait 1 left is gone, and caught none", x.tuft(17, 2), NONE);
        walk(x, 0, EAST);
        due("the trap with the wait 0 is set: one is left", x.count(1), 1);
        dueCount(x, 2, 1);
    }

    private static void notOpenedAtFirst() {
        MolesLawn x = new MolesLawn();
        for (int t = 0; t < 64; t++) {
            dueTuft(x, t, 5, 0);
        }
        dueCount(x, 6, 0);
        x.dig(0);
        x.dig(63);
        for (int t = 0; t < 64; t++) {
            dueTuft(x, t, 5, t == 0 || t == 63 ? 1 : 0);
        }
        x.mole(0);
        x.root(0, 3);
        due("it stays opened when a mole comes", x.tuft(0, 5), 1);
        dueCount(x, 6, 2);
    }

    // ---- tunnels, trails

    private static void shortestTunnel() {
        MolesLawn x = new MolesLawn();
        x.mole(0);
        x.mole(1);
        walk(x, 0, EAST);
        dueTunnels(x, row(0, 1));
        MolesLawn y = rowOfMounds(1);
        y.mole(1);
        due("split at its middle tuft", y.count(4), 2);
        dueTunnels(y, row(0, 1), row(1, 2));
        for (int k = 0; k < 2; k++) {
            due("a mound at the first", y.tuft(y.tunnel(k, 0), 0), 1);
            due("a mound at the last", y.tuft(y.tunnel(k, 1), 0), 1);
        }
        // Back to the mound where it began: the two ends would be the same.
        MolesLawn z = new MolesLawn();
        z.mole(0);
        walk(z, 0, EAST, WEST);
        dueTunnels(z);
    }

    private static void severalTimes() {
        MolesLawn x = loop();
        dueTunnels(x, row(0, 1, 2, 10, 9, 1, 2, 3, 4));
        dueTuft(x, 1, 7, 1);
        walk(x, 0, WEST, WEST, WEST, WEST);
        dueTunnels(x, row(0, 1, 2, 10, 9, 1, 2, 3, 4), row(4, 3, 2, 1, 0));
        dueTuft(x, 1, 7, 2);
        dueTuft(x, 10, 7, 1);
        // To and fro between two mounds: each time one more with the same tufts.
        MolesLawn y = rowOfMounds(1);
        for (int i = 2; i <= 9; i++) {
            walk(y, 0, i % 2 == 0 ? WEST : EAST, i % 2 == 0 ? WEST : EAST);
            dueTuft(y, 1, 7, i);
            dueCount(y, 4, i);
        }
    }

    // One tunnel of 300 steps: 15 trails of 20 steps, each to a fresh mound; then all mounds between are raked.
    private static MolesLawn longTunnel(List<Integer> way) {
        MolesLawn x = new MolesLawn();
        x.set(20);
        x.mole(0);
        way.add(0);
        List<Integer> between = new ArrayList<>();
        for (int part = 0; part < 15; part++) {
            boolean down = part % 4 == 3;
            boolean right = part / 4 % 2 == 0;
            int along = down ? SOUTH : right ? EAST : WEST;
            int aside = down ? (right ? WEST : EAST) : SOUTH;
            for (int i = 0; i < 20; i++) {
                int d = i == 0 || i == 19 ? along : i % 2 == 1 ? aside : (aside + 2) % 4;
                x.plan(0, d);
                int here = way.get(way.size() - 1);
                way.add(here + (d == NORTH ? -8 : d == SOUTH ? 8 : d == EAST ? 1 : -1));
            }
            due("mounds in 20 beats", x.pass(20), 1);
            between.add(way.get(way.size() - 1));
        }
        for (int i = 0; i < 14; i++) {
            due("rake(" + between.get(i) + ")", x.rake(between.get(i)), 1);
        }
        return x;
    }

    private static void noLimit() {
        MolesLawn x = crowd();
        dueCount(x, 4, 480);
        for (int from = 0; from < 301; from += 151) {
            List<Integer> way = new ArrayList<>();
            MolesLawn y = longTunnel(way);
            dueCount(y, 4, 1);
            due("tunnel(0, 2)", y.tunnel(0, 2), 301);
            for (int i = from; i < Math.min(from + 151, 301); i++) {
                due("cell(0, " + i + ")", y.cell(0, i), way.get(i));
            }
            due("cell(0, 301)", y.cell(0, 301), NONE);
        }
    }

    private static void numberedInTheirOrder() {
        MolesLawn x = rowOfMounds(3);
        dueTunnels(x, row(0, 1, 2), row(2, 3, 4), row(4, 5, 6));
        x.dig(3);
        due("behind one that is gone the numbers are less", x.tunnel(1, 0), 4);
        refused(() -> rowOfMounds(3), "tunnel(3, 0)", y -> y.tunnel(3, 0), INDEX);
        refused(() -> rowOfMounds(3), "tunnel(-1, 0)", y -> y.tunnel(-1, 0), INDEX);
    }

    private static void trails() {
        MolesLawn x = new MolesLawn();
        x.set(20);
        x.mole(0);
        due("where the shortest trail begins", x.moleOf(0, 4), 0);
        due("where the shortest trail ends", x.moleOf(0, 0), 0);
        due("its tufts", x.moleOf(0, 5), 1);
        for (int i = 0; i < 20; i++) {
            x.plan(0, i < 7 ? EAST : i == 7 || i == 19 ? SOUTH : i % 2 == 0 ? WEST : EAST);
        }
        x.pass(19);
        dueMole(x, 0, 14, 1, 1, SOUTH, 0, 20, 19);
        int moundsOnIt = 0;
        for (int t = 1; t < 64; t++) {
            moundsOnIt += x.tuft(t, 0);
        }
        due("mounds on the longest trail but at its first tuft", moundsOnIt, 0);
        due("a mound by the 20th step", x.pass(1), 1);
        dueTunnels(x, row(0, 1, 2, 3, 4, 5, 6, 7, 15, 14, 15, 14, 15, 14, 15, 14, 15, 14, 15, 14, 22));
        dueMole(x, 0, 22, 20, 0, NONE, 22, 1, 20);
    }

    private static void hollow() {
        MolesLawn x = rowOfMounds(1);
        x.mole(16);
        x.mole(32);
        x.trap(33, 0);
        walk(x, 2, EAST);
        walk(x, 1, EAST);
        for (int t = 0; t < 64; t++) {
            dueTuft(x, t, 3, t <= 2 || t == 16 || t == 17 ? 1 : 0);
        }
        due("a mound without a tunnel or a trail is not hollow", 10 * x.tuft(32, 0) + x.tuft(32, 3), 10);
        dueCount(x, 5, 5);
    }

    private static void finishedTrail() {
        MolesLawn x = rowOfMounds(2);
        x.set(6);
        x.mole(14);
        // By 12 to 4: behind the two tunnels that there are.
        walk(x, 1, WEST, WEST, NORTH);
        dueTunnels(x, row(0, 1, 2), row(2, 3, 4), row(14, 13, 12, 4));
        // A step to and fro on the way is in the tunnel, too.
        walk(x, 1, SOUTH, EAST, WEST, WEST, WEST, NORTH);
        dueTunnels(x, row(0, 1, 2), row(2, 3, 4), row(14, 13, 12, 4), row(4, 12, 13, 12, 11, 10, 2));
    }

    private static void finishedWhereItBegan() {
        MolesLawn x = new MolesLawn();
        x.mole(9);
        walk(x, 0, EAST, WEST);
        dueTunnels(x);
        dueMole(x, 0, 9, 6, 0, NONE, 9, 1, 2);
        walk(x, 0, EAST, SOUTH, WEST, NORTH);
        dueTunnels(x);
        dueMole(x, 0, 9, 6, 0, NONE, 9, 1, 6);
        due("the way round is not hollow any more", x.count(5), 1);
    }

    private static void beginsAnew() {
        MolesLawn x = new MolesLawn();
        x.mole(0);
        x.mole(3);
        x.set(3);
        // The third step is the last one for which there is air, and leads to a mound.
        due("mounds", pass(x, 0, EAST, EAST, EAST), 0);
        dueMole(x, 0, 3, 3, 0, NONE, 3, 1, 3);
        x.set(20);
        walk(x, 0, SOUTH, NORTH);
        dueMole(x, 0, 3, 20, 0, NONE, 3, 1, 5);
    }

    private static int pass(MolesLawn x, int mole, int... directions) {
        for (int direction : directions) {
            x.plan(mole, direction);
        }
        return x.pass(directions.length);
    }

    // ---- a new mound

    private static void tunnelsAreSplit() {
        MolesLawn x = loop();
        x.mole(1);
        dueTunnels(x, row(0, 1), row(1, 2, 3, 4));
        MolesLawn y = loop();
        y.mole(10);
        dueTunnels(y, row(0, 1, 2, 10), row(10, 9, 1, 2, 3, 4));
        MolesLawn z = rowOfMounds(1);
        z.mole(48);
        walk(z, 1, EAST, EAST);
        walk(z, 0, WEST, WEST);
        dueTunnels(z, row(0, 1, 2), row(48, 49, 50), row(2, 1, 0));
        z.mole(1);
        dueTunnels(z, row(0, 1), row(1, 2), row(48, 49, 50), row(2, 1), row(1, 0));
        // Where the next tunnel has the tuft, too, close behind.
        MolesLawn w = rowOfMounds(1);
        walk(w, 0, WEST, WEST);
        w.mole(1);
        dueTunnels(w, row(0, 1), row(1, 2), row(2, 1), row(1, 0));
        // At an end of tunnels there is a mound already: nothing is split.
        z.mole(0);
        dueCount(z, 4, 5);
    }

    private static void trailsAreSplit() {
        MolesLawn x = rowOfMounds(1);
        x.set(6);
        x.mole(8);
        x.mole(25);
        x.set(20);
        walk(x, 1, EAST, EAST, SOUTH, WEST, NORTH);
        walk(x, 2, NORTH, NORTH);
        dueMole(x, 1, 9, 1, 0, NONE, 8, 6, 5);
        dueMole(x, 2, 9, 4, 0, NONE, 25, 3, 2);
        walk(x, 2, EAST, EAST);
        dueMole(x, 2, 11, 2, 0, NONE, 25, 5, 4);
        dueCount(x, 4, 1);
        due("mole(9)", x.mole(9), 3);
        dueTunnels(x, row(0, 1, 2), row(8, 9), row(25, 17, 9));
        dueMole(x, 1, 9, 1, 0, NONE, 9, 1, 5);
        dueMole(x, 2, 11, 2, 0, NONE, 9, 3, 4);
        due("the way round is not hollow any more", x.tuft(18, 3), 0);
    }

    private static void lastOccurrenceOnATrail() {
        MolesLawn x = new MolesLawn();
        x.set(20);
        x.mole(8);
        walk(x, 0, EAST, EAST, SOUTH, WEST, NORTH, EAST, EAST);
        // 8 9 10 18 17 9 10 11
        dueMole(x, 0, 11, 13, 0, NONE, 8, 8, 7);
        x.mole(10);
        dueTunnels(x, row(8, 9, 10));
        dueMole(x, 0, 11, 13, 0, NONE, 10, 2, 7);
        // The first tuft has a mound: no new one comes up there, and the trail stays whole.
        MolesLawn y = new MolesLawn();
        y.mole(8);
        walk(y, 0, EAST, EAST);
        due("mole(8)", y.mole(8), 1);
        dueTunnels(y);
        dueMole(y, 0, 10, 4, 0, NONE, 8, 3, 2);
    }

    private static void airAtANewMound() {
        MolesLawn x = new MolesLawn();
        x.mole(8);
        x.set(4);
        x.mole(1);
        walk(x, 0, EAST, EAST, EAST);
        x.set(5);
        // Mole 1 has four air, and pushes a mound up at 10, on the trail of mole 0.
        due("mounds", pass(x, 1, EAST, EAST, SOUTH, WEST), 1);
        dueTunnels(x, row(8, 9, 10), row(1, 2, 3, 11, 10));
        dueMole(x, 0, 11, 1, 0, NONE, 10, 2, 3);
        dueMole(x, 1, 10, 5, 0, NONE, 10, 1, 4);
        // A mole that is at the new mound itself, but did not push it up, keeps its air, too.
        MolesLawn y = new MolesLawn();
        y.mole(8);
        walk(y, 0, EAST, EAST);
        due("mole(10)", y.mole(10), 1);
        dueMole(y, 0, 10, 4, 0, NONE, 10, 1, 2);
        dueMole(y, 1, 10, 6, 0, NONE, 10, 1, 0);
    }

    private static void comesUpWhereNoneIs() {
        MolesLawn x = rowOfMounds(2);
        due("mole(2), at a mound", x.mole(2), 1);
        dueTunnels(x, row(0, 1, 2), row(2, 3, 4));
        dueCount(x, 10, 3);
        due("mole(3), where none is", x.mole(3), 2);
        dueTunnels(x, row(0, 1, 2), row(2, 3), row(3, 4));
        dueCount(x, 10, 4);
        // First the tunnels, then the trails: all in the order of what is there.
        MolesLawn y = rowOfMounds(2);
        y.mole(11);
        walk(y, 1, NORTH);
        y.mole(3);
        dueTunnels(y, row(0, 1, 2), row(2, 3), row(3, 4), row(11, 3));
        // Where one was raked it comes up again, and splits what was put together.
        MolesLawn z = rowOfMounds(2);
        z.rake(2);
        dueTunnels(z, row(0, 1, 2, 3, 4));
        z.mole(2);
        dueTunnels(z, row(0, 1, 2), row(2, 3, 4));
        dueCount(z, 10, 4);
    }

    // ---- moles, beats

    private static void inTheirOrder() {
        // One pushes a mound up at 10, and the other one comes to 10 in the same beat: behind it, or before it.
        for (int first = 0; first <= 1; first++) {
            MolesLawn x = new MolesLawn();
            x.set(3);
            x.mole(first == 0 ? 0 : 26);
            x.mole(first == 0 ? 26 : 0);
            walk(x, first, SOUTH);
            type(x, first == 0 ? "0:ee;1:nn" : "1:ee;0:nn");
            x.plans();
            due("pass(2)", x.pass(2), 1);
            dueMole(x, first, 10, 3, 0, NONE, 10, 1, 3);
            dueMole(x, 1 - first, 10, first == 0 ? 3 : 1, 0, NONE, 10, 1, 2);
            int[] one = row(0, 8, 9, 10);
            int[] two = row(26, 18, 10);
            dueTunnels(x, first == 0 ? one : two, first == 0 ? two : one);
        }
        // The root that mole 0 gnaws through is gone for mole 1, in the same beat.
        MolesLawn y = new MolesLawn();
        y.mole(2);
        y.mole(0);
        y.root(1, 1);
        y.plan(0, WEST);
        y.plan(1, EAST);
        y.pass(1);
        due("mole 0 is where it was", y.moleOf(0, 0), 2);
        due("mole 1 went", y.moleOf(1, 0), 1);
    }

    private static void atMostFourMoles() {
        MolesLawn x = new MolesLawn();
        for (int i = 0; i < 4; i++) {
            due("mole(" + (60 - i) + ")", x.mole(60 - i), i);
            dueCount(x, 1, i + 1);
        }
        for (int i = 0; i < 4; i++) {
            due("where mole " + i + " is", x.moleOf(i, 0), 60 - i);
        }
        refused(Edges::fourMoles, "a fifth mole", y -> y.mole(5), STATE);
        x.dig(60);
        due("mole(5), when one was caught", x.mole(5), 3);
    }

    private static void numbersBehindACaughtMole() {
        for (int gone = 0; gone < 4; gone++) {
            MolesLawn x = fourMoles();
            walk(x, gone, EAST);
            due("dig where mole " + gone + " is", x.dig(9 * gone + 1), 1);
            dueCount(x, 1, 3);
            for (int i = 0; i < 3; i++) {
                due("where mole " + i + " is", x.moleOf(i, 0), 9 * (i < gone ? i : i + 1));
            }
            due("the trail of mole " + gone, x.tuft(9 * gone, 3), 0);
            due("its mound", x.tuft(9 * gone, 0), 1);
            answerIsIndex(x);
        }
        // All, in one beat, by traps.
        MolesLawn y = fourMoles();
        for (int i = 0; i < 4; i++) {
            y.trap(9 * i + 1, 0);
            y.plan(i, EAST);
        }
        y.pass(1);
        dueCount(y, 1, 0);
        dueCount(y, 2, 4);
        dueCount(y, 5, 0);
        dueCount(y, 3, 4);
        // The second and the fourth: the third one has its turn in the same beat.
        MolesLawn z = fourMoles();
        z.trap(10, 0);
        z.trap(28, 0);
        for (int i = 0; i < 4; i++) {
            z.plan(i, EAST);
        }
        z.pass(1);
        dueCount(z, 1, 2);
        dueMole(z, 0, 1, 5, 0, NONE, 0, 2, 1);
        dueMole(z, 1, 19, 5, 0, NONE, 18, 2, 1);
    }

    private static void answerIsIndex(MolesLawn x) {
        dueAlike("moleOf(3, 0)", answer(x, y -> y.moleOf(3, 0)), "throws.IndexOutOfBoundsException");
    }

    private static void planAndAir() {
        MolesLawn x = fullPlan();
        due("directions of a full plan", x.moleOf(0, 2), 20);
        refused(Edges::fullPlan, "a 21st direction", y -> y.plan(0, NORTH), STATE);
        type(x, "0:n");
        due("plans(), into a full plan", x.plans(), 0);
        x.pass(19);
        dueMole(x, 0, 0, 6, 1, SOUTH);
        due("air at first", x.moleOf(0, 1), x.count(13));
        x.set(20);
        x.pass(1);
        due("air, less than the setting", x.moleOf(0, 1), 5);
        x.set(2);
        due("air, the setting at most", x.moleOf(0, 1), 2);
    }

    private static void waits() {
        MolesLawn x = new MolesLawn();
        x.trap(0, 20);
        x.trap(1, 1);
        x.trap(2, 2);
        x.trap(3, 0);
        x.trap(63, 20);
        x.pass(1);
        dueTuft(x, 0, 2, 19);
        dueTuft(x, 1, 2, 0);
        dueTuft(x, 2, 2, 1);
        dueTuft(x, 3, 2, 0);
        dueTuft(x, 63, 2, 19);
        dueTuft(x, 4, 2, NONE);
        x.pass(30);
        dueTuft(x, 0, 2, 0);
        dueTuft(x, 3, 2, 0);
        dueTuft(x, 63, 2, 0);
        dueCount(x, 7, 5);
        // First the waits: a trap with the wait 1 is set when the moles go, one with the wait 2 is not.
        MolesLawn y = new MolesLawn();
        y.mole(0);
        y.mole(16);
        y.trap(1, 2);
        y.trap(17, 1);
        y.plan(0, EAST);
        y.plan(1, EAST);
        y.pass(1);
        dueCount(y, 2, 1);
        dueMole(y, 0, 1, 5, 0, NONE, 0, 2, 1);
    }

    private static void emptyPlan() {
        MolesLawn x = new MolesLawn();
        x.mole(0);
        for (int t : new int[] {1, 8}) {
            x.root(t, 3);
        }
        due("pass(30)", x.pass(30), 0);
        dueMole(x, 0, 0, 6, 0, NONE, 0, 1, 0);
        dueTuft(x, 1, 1, 3);
        dueTuft(x, 8, 1, 3);
        dueCount(x, 9, 0);
        dueCount(x, 0, 30);
        // With one air left, on its way: it stays so.
        MolesLawn y = new MolesLawn();
        y.set(2);
        y.mole(0);
        walk(y, 0, EAST);
        due("pass(30)", y.pass(30), 0);
        dueMole(y, 0, 1, 1, 0, NONE, 0, 2, 1);
    }

    private static void beyondTheLawn() {
        int[] corners = {0, 7, 63, 56};
        for (int i = 0; i < 4; i++) {
            MolesLawn x = new MolesLawn();
            x.set(2);
            x.mole(corners[i]);
            int first = i;
            int second = (i + 3) % 4;
            x.plan(0, first);
            x.plan(0, second);
            x.plan(0, (i + 1) % 4);
            due("pass(1)", x.pass(1), 0);
            dueMole(x, 0, corners[i], 2, 2, second, corners[i], 1, 0);
            due("pass(1)", x.pass(1), 0);
            dueMole(x, 0, corners[i], 2, 1, (i + 1) % 4, corners[i], 1, 0);
            due("pass(1)", x.pass(1), 0);
            dueMole(x, 0, corners[i] + new int[] {1, 8, -1, -8}[i], 1, 0, NONE, corners[i], 2, 1);
        }
        // With one air left: no mound comes up; and a trap where it is does not catch it.
        MolesLawn y = new MolesLawn();
        y.set(2);
        y.mole(0);
        walk(y, 0, EAST);
        y.trap(1, 0);
        y.root(1, 2);
        due("mounds", pass(y, 0, NORTH, NORTH, NORTH), 0);
        dueMole(y, 0, 1, 1, 0, NONE, 0, 2, 1);
        dueTuft(y, 1, 2, 0);
        dueTuft(y, 1, 1, 2);
        dueCount(y, 9, 0);
    }

    private static void gnawing() {
        MolesLawn x = new MolesLawn();
        x.set(20);
        x.mole(0);
        x.root(1, 9);
        x.trap(1, 0);
        x.plan(0, EAST);
        x.plan(0, SOUTH);
        for (int left = 8; left >= 0; left--) {
            due("pass(1)", x.pass(1), 0);
            dueTuft(x, 1, 1, left);
            dueMole(x, 0, 0, 11 + left, 2, EAST, 0, 1, 0);
            dueCount(x, 9, 9 - left);
            dueCount(x, 8, left > 0 ? 1 : 0);
        }
        due("the trap is there until it goes", x.tuft(1, 2), 0);
        x.pass(1);
        dueCount(x, 2, 1);
        dueCount(x, 9, 9);
        // Of strength 1: gone by the first try, and the mole goes by the second.
        MolesLawn y = new MolesLawn();
        y.mole(0);
        y.mole(2);
        y.root(1, 1);
        y.plan(0, EAST);
        y.plan(1, WEST);
        y.pass(1);
        dueMole(y, 0, 0, 5, 1, EAST, 0, 1, 0);
        due("the mole behind it has no root there any more", y.moleOf(1, 0), 1);
    }

    private static void going() {
        MolesLawn x = new MolesLawn();
        x.mole(0);
        x.plan(0, EAST);
        x.plan(0, EAST);
        x.pass(1);
        dueMole(x, 0, 1, 5, 1, EAST, 0, 2, 1);
        // To a tuft that is on the trail already: put to it once more.
        MolesLawn y = new MolesLawn();
        y.mole(0);
        walk(y, 0, EAST, EAST, WEST);
        dueMole(y, 0, 1, 3, 0, NONE, 0, 4, 3);
        dueCount(y, 5, 3);
        // To where another mole is.
        MolesLawn z = new MolesLawn();
        z.mole(0);
        z.mole(2);
        walk(z, 1, WEST);
        walk(z, 0, EAST);
        dueTuft(z, 1, 8, 2);
        dueCount(z, 4, 0);
    }

    private static void traps() {
        // Set, at a mound: no tunnel.
        MolesLawn x = new MolesLawn();
        x.mole(0);
        x.mole(1);
        x.trap(1, 0);
        walk(x, 0, EAST);
        dueCount(x, 1, 1);
        dueCount(x, 4, 0);
        dueCount(x, 7, 0);
        due("the mole at the trap's tuft stays", x.moleOf(0, 0), 1);
        // Set, at the last air: no mound.
        MolesLawn y = new MolesLawn();
        y.set(2);
        y.mole(0);
        y.trap(2, 0);
        due("mounds", pass(y, 0, EAST, EAST), 0);
        dueCount(y, 1, 0);
        dueCount(y, 5, 0);
        // Not set: it is gone, and the mole goes on: its trail is finished, or a mound comes up.
        MolesLawn z = new MolesLawn();
        z.set(2);
        z.mole(0);
        z.trap(1, 20);
        z.trap(2, 4);
        due("mounds", pass(z, 0, EAST, EAST), 1);
        dueCount(z, 7, 0);
        dueCount(z, 2, 0);
        dueTunnels(z, row(0, 1, 2));
        // One trap catches one mole.
        MolesLawn w = new MolesLawn();
        w.mole(0);
        w.mole(2);
        w.trap(1, 0);
        w.plan(0, EAST);
        w.plan(1, WEST);
        w.pass(1);
        dueCount(w, 2, 1);
        dueMole(w, 0, 1, 5, 0, NONE, 2, 2, 1);
    }

    private static void toAMound() {
        MolesLawn x = new MolesLawn();
        x.set(2);
        x.mole(0);
        x.mole(2);
        due("no mound comes up where one is", pass(x, 0, EAST, EAST), 0);
        dueTunnels(x, row(0, 1, 2));
        dueMole(x, 0, 2, 2, 0, NONE, 2, 1, 2);
        // Not the tuft where it is, when it gnaws: its trail is not finished there.
        MolesLawn y = new MolesLawn();
        y.mole(0);
        y.root(1, 9);
        y.plan(0, EAST);
        y.pass(1);
        dueMole(y, 0, 0, 5, 1, EAST, 0, 1, 0);
    }

    private static void noAirLeft() {
        // By a step.
        MolesLawn x = new MolesLawn();
        x.set(2);
        x.mole(0);
        due("with one air left", pass(x, 0, EAST), 0);
        due("with none", pass(x, 0, EAST), 1);
        dueMole(x, 0, 2, 2, 0, NONE, 2, 1, 2);
        // By gnawing, at a tuft without a mound, and then at this mound.
        MolesLawn y = new MolesLawn();
        y.set(2);
        y.mole(0);
        walk(y, 0, EAST);
        y.root(2, 9);
        due("by gnawing", pass(y, 0, EAST), 1);
        dueTuft(y, 1, 0, 1);
        dueMole(y, 0, 1, 2, 1, EAST, 1, 1, 1);
        due("pass(1)", y.pass(1), 0);
        dueMole(y, 0, 1, 1, 1, EAST, 1, 1, 1);
        due("at a mound", y.pass(1), 0);
        dueMole(y, 0, 1, 2, 1, EAST, 1, 1, 1);
        dueCount(y, 10, 2);
        dueTunnels(y, row(0, 1));
    }

    // ---- gardeners

    private static void digOpens() {
        MolesLawn x = new MolesLawn();
        due("dig(63) of an empty tuft", x.dig(63), 0);
        dueTuft(x, 63, 5, 1);
        x.root(63, 9);
        x.trap(63, 0);
        x.root(62, 1);
        x.trap(62, 20);
        x.dig(63);
        dueTuft(x, 63, 5, 1);
        dueTuft(x, 63, 1, 0);
        dueTuft(x, 63, 2, NONE);
        due("only there", 100 * x.tuft(62, 1) + x.tuft(62, 2), 120);
        dueCount(x, 6, 1);
    }

    private static void digCatches() {
        MolesLawn x = new MolesLawn();
        x.mole(9);
        x.mole(20);
        x.mole(9);
        walk(x, 1, EAST);
        due("dig(20), where none is any more", x.dig(20), 0);
        due("dig(9), where two are", x.dig(9), 2);
        dueCount(x, 1, 1);
        due("the other one", x.moleOf(0, 0), 21);
        MolesLawn y = new MolesLawn();
        for (int i = 0; i < 4; i++) {
            y.mole(0);
        }
        due("dig(0), where four are", y.dig(0), 4);
        dueCount(y, 1, 0);
        dueCount(y, 2, 4);
    }

    private static void digTakesTunnels() {
        MolesLawn x = rowOfMounds(3);
        x.dig(2);
        dueTunnels(x, row(4, 5, 6));
        dueTuft(x, 2, 0, 0);
        dueTuft(x, 0, 0, 1);
        dueTuft(x, 4, 0, 1);
        dueCount(x, 11, 2);
        // In the middle, where there is no mound; one that has the tuft twice is one.
        MolesLawn y = loop();
        y.dig(1);
        dueTunnels(y);
        dueCount(y, 11, 1);
        dueCount(y, 3, 2);
        // None.
        y.dig(40);
        dueCount(y, 11, 1);
    }

    private static void digTakesTrails() {
        MolesLawn x = new MolesLawn();
        x.mole(0);
        x.mole(8);
        x.mole(0);
        walk(x, 0, EAST, EAST);
        walk(x, 1, EAST, EAST);
        walk(x, 2, EAST, EAST, EAST);
        x.plan(0, WEST);
        // At the first tuft of two trails.
        due("dig(0)", x.dig(0), 0);
        dueMole(x, 0, 2, 6, 1, WEST, 2, 1, 2);
        dueMole(x, 1, 10, 4, 0, NONE, 8, 3, 2);
        dueMole(x, 2, 3, 6, 0, NONE, 3, 1, 3);
        dueTunnels(x);
        dueCount(x, 3, 3);
        dueCount(x, 10, 4);
        dueCount(x, 11, 0);
        // Two moles at one tuft: one mound for both; and it splits the trail of the third, which stays.
        MolesLawn y = new MolesLawn();
        y.mole(0);
        y.mole(0);
        y.mole(18);
        walk(y, 0, EAST, EAST);
        walk(y, 1, EAST, EAST);
        walk(y, 2, NORTH, NORTH, EAST);
        y.dig(1);
        dueCount(y, 10, 3);
        dueMole(y, 0, 2, 6, 0, NONE, 2, 1, 2);
        dueMole(y, 1, 2, 6, 0, NONE, 2, 1, 2);
        dueMole(y, 2, 3, 3, 0, NONE, 2, 2, 3);
        dueTunnels(y, row(18, 10, 2));
    }

    private static void rakeTakesAMound() {
        MolesLawn x = new MolesLawn();
        x.mole(0);
        x.trap(1, 0);
        walk(x, 0, EAST);
        x.root(0, 4);
        x.trap(0, 9);
        due("rake(0), a mound without tunnels", x.rake(0), 0);
        dueTuft(x, 0, 0, 0);
        dueCount(x, 3, 0);
        due("root, trap, opened", 1000 * x.tuft(0, 1) + 10 * x.tuft(0, 2) + x.tuft(0, 5), 4090);
        refused(EdgeTermsTest::trailAway, "rake(8), where the trail of a mole begins that is away",
                y -> y.rake(8), STATE);
    }

    private static MolesLawn trailAway() {
        MolesLawn x = new MolesLawn();
        x.mole(8);
        walk(x, 0, EAST);
        return x;
    }

    private static void rakeJoins() {
        // In place of the lower one: of 0, 1, 2 the first and the last one are put together.
        MolesLawn x = rowOfMounds(1);
        x.mole(48);
        walk(x, 1, EAST, EAST);
        walk(x, 0, SOUTH, SOUTH);
        due("rake(2)", x.rake(2), 1);
        dueTunnels(x, row(0, 1, 2, 10, 18), row(48, 49, 50));
        // The lower one begins at the raked mound, and the second one ends there: both are turned round.
        MolesLawn y = new MolesLawn();
        y.set(2);
        y.mole(2);
        y.mole(18);
        walk(y, 0, EAST, EAST);
        walk(y, 1, NORTH, NORTH);
        walk(y, 1, WEST);
        y.dig(1);
        dueTunnels(y, row(2, 3, 4), row(18, 10, 2));
        due("rake(2)", y.rake(2), 1);
        dueTunnels(y, row(4, 3, 2, 10, 18));
        dueCount(y, 11, 0);
        // Both begin there; both end there.
        MolesLawn z = new MolesLawn();
        z.set(2);
        z.mole(2);
        z.mole(2);
        walk(z, 0, EAST, EAST);
        walk(z, 1, WEST, WEST);
        due("rake(2)", z.rake(2), 1);
        dueTunnels(z, row(4, 3, 2, 1, 0));
        MolesLawn w = rowOfMounds(1);
        w.mole(4);
        walk(w, 1, WEST, WEST);
        walk(w, 0, SOUTH);
        walk(w, 1, SOUTH);
        w.dig(10);
        dueTunnels(w, row(0, 1, 2), row(4, 3, 2));
        due("rake(2)", w.rake(2), 1);
        dueTunnels(w, row(0, 1, 2, 3, 4));
    }

    private static void rakeLetsFallIn() {
        // One.
        MolesLawn x = rowOfMounds(2);
        due("rake(0)", x.rake(0), 1);
        dueTunnels(x, row(2, 3, 4));
        dueCount(x, 11, 1);
        // Two with the same other mound.
        MolesLawn y = rowOfMounds(1);
        walk(y, 0, WEST, WEST);
        due("rake(2)", y.rake(2), 2);
        dueTunnels(y);
        dueCount(y, 11, 2);
        // Three, with three other mounds; the mole that made the third one is caught on its way on.
        MolesLawn z = rowOfMounds(2);
        z.mole(18);
        walk(z, 1, NORTH, NORTH);
        z.trap(10, 0);
        walk(z, 1, SOUTH);
        dueTunnels(z, row(0, 1, 2), row(2, 3, 4), row(18, 10, 2));
        due("rake(2)", z.rake(2), 3);
        dueTunnels(z);
        dueCount(z, 11, 3);
        dueTuft(z, 2, 0, 0);
        // Four; those elsewhere stay.
        MolesLawn w = rowOfMounds(3);
        w.mole(18);
        walk(w, 1, NORTH, NORTH);
        walk(w, 1, SOUTH, SOUTH);
        due("rake(2)", w.rake(2), 4);
        dueTunnels(w, row(4, 5, 6));
    }

    // ---- what is sure

    private static void numbers() {
        MolesLawn x = new MolesLawn();
        for (int t = 0; t < 64; t++) {
            dueTuft(x, t, 4, 0);
        }
        // A ring round 9: 0 1 2 10 18 17 16 8.
        x.set(20);
        x.mole(0);
        walk(x, 0, EAST, EAST, SOUTH, SOUTH, WEST, WEST, NORTH);
        dueTuft(x, 9, 4, 8);
        due("the tuft itself does not count", x.tuft(0, 4), 2);
        dueTuft(x, 27, 4, 1);
        dueTuft(x, 3, 4, 2);
        dueTuft(x, 11, 4, 3);
        dueTuft(x, 7, 4, 0);
        dueTuft(x, 63, 4, 0);
    }

    private static void openedIsKnown() {
        MolesLawn x = new MolesLawn();
        x.mole(18);
        dueTuft(x, 18, 6, NONE);
        dueTuft(x, 63, 6, NONE);
        x.dig(63);
        dueTuft(x, 63, 6, 0);
        MolesLawn y = new MolesLawn();
        y.dig(18);
        y.mole(18);
        dueTuft(y, 18, 6, 1);
        // A tuft that is known to be hollow counts as hollow for the number of another.
        y.dig(27);
        due("beside 27, the number 1, only 18 is hollow", y.tuft(28, 6), 0);
    }

    private static void asManyAsItsNumber() {
        // The number 0: all beside it are not hollow, at a corner three, at a side five, elsewhere eight.
        int[] places = {0, 4, 27, 63};
        int[][] near = {{1, 8, 9}, {3, 5, 11, 12, 13}, {18, 19, 20, 26, 28, 34, 35, 36}, {54, 55, 62}};
        for (int i = 0; i < places.length; i++) {
            MolesLawn x = new MolesLawn();
            x.dig(places[i]);
            int sure = 0;
            for (int t = 0; t < 64; t++) {
                sure += x.tuft(t, 6) == 0 ? 1 : 0;
            }
            due("sure beside " + places[i] + ", and itself", sure, near[i].length + 1);
            for (int t : near[i]) {
                dueTuft(x, t, 6, 0);
            }
        }
        // One less than its number: by 9, with 1, 2 and 8 beside it, nothing is sure as long as 8 is not known.
        MolesLawn y = new MolesLawn();
        for (int t : new int[] {1, 2}) {
            y.dig(t);
            y.mole(t);
        }
        y.mole(8);
        y.dig(9);
        dueTuft(y, 9, 4, 3);
        for (int t : new int[] {8, 16, 17, 18}) {
            dueTuft(y, t, 6, NONE);
        }
        y.dig(8);
        y.mole(8);
        dueTuft(y, 9, 4, 3);
        dueTuft(y, 8, 6, 1);
        for (int t : new int[] {0, 10, 16, 17, 18}) {
            dueTuft(y, t, 6, 0);
        }
    }

    private static void allThatAreLeft() {
        // A corner with the number 3.
        MolesLawn x = new MolesLawn();
        x.mole(1);
        walk(x, 0, SOUTH, WEST);
        x.dig(0);
        dueTuft(x, 0, 4, 3);
        for (int t : new int[] {1, 8, 9}) {
            dueTuft(x, t, 6, 1);
        }
        dueTuft(x, 0, 6, 0);
        dueTuft(x, 2, 6, NONE);
        // A corner with the number 2: one too many not known.
        MolesLawn y = new MolesLawn();
        y.mole(1);
        walk(y, 0, SOUTH);
        y.dig(0);
        for (int t : new int[] {1, 8, 9}) {
            dueTuft(y, t, 6, NONE);
        }
        // When 8 is opened, the other two are.
        y.dig(8);
        dueTuft(y, 8, 6, 0);
        dueTuft(y, 1, 6, 1);
        dueTuft(y, 9, 6, 1);
        // With one that is known to be hollow: the number 3, and two are left; or the number 2, and two are left.
        for (int number = 2; number <= 3; number++) {
            MolesLawn w = new MolesLawn();
            w.dig(1);
            w.mole(1);
            w.mole(9);
            if (number == 3) {
                w.mole(8);
            }
            w.dig(0);
            dueTuft(w, 0, 4, number);
            dueTuft(w, 8, 6, number == 3 ? 1 : NONE);
            dueTuft(w, 9, 6, number == 3 ? 1 : NONE);
        }
        // The number 8: all beside it.
        MolesLawn z = new MolesLawn();
        z.set(20);
        z.mole(0);
        walk(z, 0, EAST, EAST, SOUTH, SOUTH, WEST, WEST, NORTH);
        z.dig(9);
        for (int t : new int[] {0, 1, 2, 8, 10, 16, 17, 18}) {
            dueTuft(z, t, 6, 1);
        }
    }

    // The rows 1 and 2 are opened; what is hollow in row 0 is found tuft by tuft, from one side to the other.
    private static void againAndAgain() {
        int[] hollows = {1, 0, 1, 0, 0, 1, 0, 0};
        for (int side = 0; side < 2; side++) {
            MolesLawn x = new MolesLawn();
            for (int i = 0; i < 8; i++) {
                if (hollows[i] == 1) {
                    x.mole(side == 0 ? i : 7 - i);
                }
            }
            for (int t = 8; t <= 23; t++) {
                x.dig(t);
            }
            for (int i = 0; i < 8; i++) {
                dueTuft(x, side == 0 ? i : 7 - i, 6, hollows[i]);
            }
        }
        // Nothing more: beside 14 and 15, both with the number 1, are left 7 and 23.
        MolesLawn y = new MolesLawn();
        y.mole(7);
        for (int t = 8; t <= 15; t++) {
            y.dig(t);
        }
        dueTuft(y, 6, 6, 0);
        dueTuft(y, 22, 6, 0);
        dueTuft(y, 7, 6, NONE);
        dueTuft(y, 23, 6, NONE);
        y.dig(23);
        dueTuft(y, 7, 6, 1);
    }

    private static void byTheseAlone() {
        // 0 and 1 are opened, both with the number 1, by 9: that 2 and 10 cannot be hollow, as the one beside 0 is
        // beside 1 as well, is not found by one number alone.
        MolesLawn x = new MolesLawn();
        x.mole(9);
        x.dig(0);
        x.dig(1);
        due("numbers", 10 * x.tuft(0, 4) + x.tuft(1, 4), 11);
        for (int t : new int[] {2, 8, 9, 10}) {
            dueTuft(x, t, 6, NONE);
        }
    }

    // ---- settings

    private static void airAtFirst() {
        MolesLawn x = new MolesLawn();
        dueCount(x, 13, 6);
        due("set(2)", x.set(2), 6);
        due("set(20)", x.set(20), 2);
        dueCount(x, 13, 20);
        refusedAlways("set(1)", y -> y.set(1), ARGUMENT);
        refusedAlways("set(21)", y -> y.set(21), ARGUMENT);
        x.mole(0);
        due("air", x.moleOf(0, 1), 20);
    }

    private static void airBecomesLess() {
        MolesLawn x = new MolesLawn();
        x.mole(0);
        x.mole(16);
        x.mole(32);
        walk(x, 1, EAST);
        walk(x, 2, EAST, EAST);
        x.set(5);
        due("6 becomes 5", x.moleOf(0, 1), 5);
        due("5 stays 5", x.moleOf(1, 1), 5);
        due("4 stays 4", x.moleOf(2, 1), 4);
        x.set(20);
        due("it does not become more", 100 * x.moleOf(0, 1) + 10 * x.moleOf(1, 1) + x.moleOf(2, 1), 554);
        x.set(2);
        due("2 for all", 100 * x.moleOf(0, 1) + 10 * x.moleOf(1, 1) + x.moleOf(2, 1), 222);
        due("no mound comes up by that", x.count(10), 3);
    }

    // ---- input text

    private static void sixtyCharacters() {
        MolesLawn x = new MolesLawn();
        for (int i = 1; i <= 60; i++) {
            due("append", x.append('n'), i);
        }
        refused(Edges::fullBuffer, "a 61st character", y -> y.append('n'), STATE);
        due("clearBuffer()", x.clearBuffer(), 60);
        due("append behind it", x.append('n'), 1);
    }

    private static final String[] COMPLETE = {"0:n", "1:e", "2:s", "3:w", "3:nesw", "0:n;0:n", "3:w;0:e;2:ss;1:nn"};
    private static final String[] INCOMPLETE = {"", "0", "3:", "0:n;", "0:n;1", "0:n;1:"};
    private static final String[] WRONG = {"4:n", "/:n", "0;n", "0n", ":n", "n", "0:;", "0:N", "0:n;;1:n", ";0:n",
        "0:n,1:n", "00:n", "0::n", "0:n1:n", "0:n:", "0:x", "0:nw;4:n"};

    private static void plansAsAText() {
        for (String text : COMPLETE) {
            MolesLawn x = new MolesLawn();
            type(x, text);
            due("firstError() of " + text, x.firstError(), text.length());
            due("plans() of " + text, x.plans(), 0);
        }
        for (String text : INCOMPLETE) {
            Maker maker = () -> typed(text);
            due("firstError() of " + text, maker.make().firstError(), text.length());
            refused(maker, "plans() of " + text, MolesLawn::plans, ARGUMENT);
        }
        for (String text : WRONG) {
            Maker maker = () -> typed(text);
            due("firstError() of " + text + " is in it", maker.make().firstError() < text.length() ? 1 : 0, 1);
            refused(maker, "plans() of " + text, MolesLawn::plans, ARGUMENT);
        }
    }

    private static MolesLawn typed(String text) {
        MolesLawn x = fourMoles();
        type(x, text);
        return x;
    }

    private static void syntaxErrors() {
        // Behind each beginning each of the 94 characters.
        String[] beginnings = {"", "0", "0:", "0:n", "0:n;", "0:n;3", "0:n;3:", "0:n;3:w"};
        String[] right = {"0123", ":", "nesw", "nesw;", "0123", ":", "nesw", "nesw;"};
        for (int i = 0; i < beginnings.length; i++) {
            for (int code = 33; code <= 126; code++) {
                MolesLawn x = new MolesLawn();
                type(x, beginnings[i] + (char) code);
                int length = beginnings[i].length();
                due("firstError() of " + beginnings[i] + (char) code, x.firstError(),
                        right[i].indexOf(code) >= 0 ? length + 1 : length);
            }
        }
        // What the buffer holds may begin plans that are longer than it can hold.
        MolesLawn x = fullBuffer();
        due("firstError() of 60 characters", x.firstError(), 60);
        String[] ends = {";", ";1", ";1:"};
        for (String end : ends) {
            MolesLawn y = new MolesLawn();
            StringBuilder text = new StringBuilder("0:");
            while (text.length() + end.length() < 60) {
                text.append('w');
            }
            type(y, text.append(end).toString());
            due("firstError() of " + text, y.firstError(), 60);
        }
    }

    // ---- undo, the snapshot

    private static MolesLawn empties() {
        MolesLawn x = new MolesLawn();
        x.mole(0);
        x.mole(9);
        x.keep();
        x.undo();
        x.undo();
        x.restore();
        return x;
    }

    private static void savesAlsoWithoutAChange() {
        Call[] calls = {x -> x.rest(0), x -> x.root(5, 0), x -> x.set(6), x -> x.restore(), x -> {
            type(x, "3:n");
            return x.plans();
        }};
        String[] names = {"rest of an empty plan", "root(5, 0) where none is", "set(6) again", "restore() of the same",
            "plans() for no mole"};
        for (int i = 0; i < calls.length; i++) {
            undoable(EdgeTermsTest::empties, names[i], calls[i]);
        }
        undoable(EdgeTermsTest::dugTwice, "dig(5) again", x -> x.dig(5));
        // All methods that are so marked, and that change something; beats, catches, gnawing and mounds count.
        undoable(Edges::busy, "mole(50)", x -> x.mole(50));
        undoable(Edges::busy, "plan(1, 2)", x -> x.plan(1, SOUTH));
        undoable(Edges::busy, "rest(1)", x -> x.rest(1));
        undoable(Edges::busy, "pass(30)", x -> x.pass(30));
        undoable(Edges::busy, "root(11, 9)", x -> x.root(11, 9));
        undoable(Edges::busy, "trap(0, 0)", x -> x.trap(0, 0));
        undoable(Edges::busy, "dig(41)", x -> x.dig(41));
        undoable(Edges::busy, "dig(2), where two fall in", x -> x.dig(2));
        undoable(Edges::busy, "rake(2)", x -> x.rake(2));
        undoable(Edges::busy, "rake(0), where one falls in", x -> x.rake(0));
        undoable(EdgeTermsTest::muchToCome, "pass(4), with all that beats bring", x -> x.pass(4));
        undoable(Edges::busy, "set(2)", x -> x.set(2));
        undoable(Edges::busy, "restore()", x -> x.restore());
        // Those that are not.
        notUndoable(Edges::busy, "append('n')", x -> x.append('n'));
        notUndoable(Edges::busy, "clearBuffer()", MolesLawn::clearBuffer);
        notUndoable(Edges::busy, "keep()", MolesLawn::keep);
        // Not what an exception ends.
        changesNothing(Edges::busy, "mole(64)", x -> x.mole(64));
    }

    // One gnaws, one is caught, one pushes up.
    private static MolesLawn muchToCome() {
        MolesLawn x = new MolesLawn();
        x.set(4);
        for (int t = 0; t < 48; t += 16) {
            x.mole(t);
        }
        x.root(1, 2);
        type(x, "0:eee;1:eee;2:eeee");
        x.plans();
        x.keep();
        while (x.count(14) > 0) {
            x.undo();
        }
        x.restore();
        x.trap(18, 0);
        return x;
    }

    private static MolesLawn dugTwice() {
        MolesLawn x = new MolesLawn();
        x.dig(5);
        return x;
    }

    private static void atMostSixStates() {
        MolesLawn x = new MolesLawn();
        for (int i = 1; i <= 9; i++) {
            x.root(i, 1);
            dueCount(x, 14, Math.min(i, 6));
        }
        for (int i = 5; i >= 0; i--) {
            due("undo()", x.undo(), i);
            dueCount(x, 8, i + 3);
            dueTuft(x, i + 4, 1, 0);
            dueTuft(x, i + 3, 1, 1);
        }
        refused(EdgeTermsTest::allUndone, "undo() of a seventh", MolesLawn::undo, STATE);
    }

    private static MolesLawn allUndone() {
        MolesLawn x = new MolesLawn();
        for (int i = 1; i <= 9; i++) {
            x.root(i, 1);
        }
        x.keep();
        for (int i = 0; i < 6; i++) {
            x.undo();
        }
        return x;
    }

    // ---- exceptions

    // One call of each method that can throw, with each of its exceptions, on lawns that have much to change.
    private static void refusedChangesNothing() {
        refused(Edges::busy, "mole(64)", x -> x.mole(64), INDEX);
        refused(Edges::busy, "mole(11) at a root", x -> x.mole(11), STATE);
        refused(Edges::busy, "plan(2, 0)", x -> x.plan(2, 0), INDEX);
        refused(Edges::busy, "plan(0, 4)", x -> x.plan(0, 4), ARGUMENT);
        refused(Edges::fullPlan, "plan(0, 0) of a full plan", x -> x.plan(0, 0), STATE);
        refused(Edges::busy, "rest(2)", x -> x.rest(2), INDEX);
        refused(Edges::busy, "pass(31)", x -> x.pass(31), ARGUMENT);
        refused(Edges::busy, "root(64, 3)", x -> x.root(64, 3), INDEX);
        refused(Edges::busy, "root(11, 10)", x -> x.root(11, 10), ARGUMENT);
        refused(Edges::busy, "trap(64, 3)", x -> x.trap(64, 3), INDEX);
        refused(Edges::busy, "trap(0, 21)", x -> x.trap(0, 21), ARGUMENT);
        refused(Edges::busy, "trap(44, 3) where one is", x -> x.trap(44, 3), STATE);
        refused(Edges::busy, "dig(64)", x -> x.dig(64), INDEX);
        refused(Edges::busy, "rake(64)", x -> x.rake(64), INDEX);
        refused(Edges::busy, "rake(1) without a mound", x -> x.rake(1), STATE);
        refused(Edges::busy, "rake(20) where a trail begins", x -> x.rake(20), STATE);
        refused(Edges::busy, "set(21)", x -> x.set(21), ARGUMENT);
        refused(Edges::busy, "append(32)", x -> x.append(32), ARGUMENT);
        refused(Edges::fullBuffer, "append('n') to 60", x -> x.append('n'), STATE);
        refused(Edges::busy, "plans() of 1:n;", MolesLawn::plans, ARGUMENT);
        refused(EdgeTermsTest::allUndone, "undo()", MolesLawn::undo, STATE);
        refused(Edges::fourMoles, "restore() without a snapshot", MolesLawn::restore, STATE);
        refused(Edges::busy, "tuft(64, 0)", x -> x.tuft(64, 0), INDEX);
        refused(Edges::busy, "tuft(0, 9)", x -> x.tuft(0, 9), ARGUMENT);
        refused(Edges::busy, "moleOf(2, 0)", x -> x.moleOf(2, 0), INDEX);
        refused(Edges::busy, "moleOf(0, 7)", x -> x.moleOf(0, 7), ARGUMENT);
        refused(Edges::busy, "tunnel(3, 0)", x -> x.tunnel(3, 0), INDEX);
        refused(Edges::busy, "tunnel(0, 3)", x -> x.tunnel(0, 3), ARGUMENT);
        refused(Edges::busy, "cell(3, 0)", x -> x.cell(3, 0), INDEX);
        refused(Edges::busy, "cell(0, -1)", x -> x.cell(0, -1), ARGUMENT);
        refused(Edges::busy, "count(15)", x -> x.count(15), ARGUMENT);
        refused(Edges::busy, "joined(0, 64)", x -> x.joined(0, 64), INDEX);
        refused(Edges::busy, "fewest(64, 0)", x -> x.fewest(64, 0), INDEX);
        refused(Edges::busy, "ifDug(64, 0)", x -> x.ifDug(64, 0), INDEX);
        refused(Edges::busy, "ifDug(0, 3)", x -> x.ifDug(0, 3), ARGUMENT);
        refused(Edges::busy, "ifPassed(31, 0)", x -> x.ifPassed(31, 0), ARGUMENT);
    }

    private static void firstNamedIsThrown() {
        refused(Edges::fourMoles, "mole(64) with four moles", x -> x.mole(64), INDEX);
        refused(Edges::fullPlan, "plan(1, 4)", x -> x.plan(1, 4), INDEX);
        refused(Edges::fullPlan, "plan(0, 4) of a full plan", x -> x.plan(0, 4), ARGUMENT);
        refused(Edges::busy, "root(64, 10)", x -> x.root(64, 10), INDEX);
        refused(Edges::busy, "trap(-1, 21)", x -> x.trap(-1, 21), INDEX);
        refused(Edges::busy, "trap(44, 21) where one is", x -> x.trap(44, 21), ARGUMENT);
        refused(Edges::fullBuffer, "append(127) to 60", x -> x.append(127), ARGUMENT);
        refused(Edges::busy, "tuft(64, 9)", x -> x.tuft(64, 9), INDEX);
        refused(Edges::busy, "moleOf(2, 7)", x -> x.moleOf(2, 7), INDEX);
        refused(Edges::busy, "tunnel(3, 3)", x -> x.tunnel(3, 3), INDEX);
        refused(Edges::busy, "cell(3, -1)", x -> x.cell(3, -1), INDEX);
        refused(Edges::busy, "ifDug(-1, 3)", x -> x.ifDug(-1, 3), INDEX);
    }

    private static void looksChangeNothing() {
        Call[] looks = {x -> x.tuft(1, 4), x -> x.tuft(1, 6), x -> x.moleOf(0, 0), x -> x.tunnel(0, 2),
            x -> x.cell(0, 1), x -> x.cell(0, 99), x -> x.count(12), x -> x.count(5)};
        for (int i = 0; i < looks.length; i++) {
            changesNothing(Edges::busy, "look " + i, looks[i]);
        }
    }

    private static void whatWouldBeChangesNothing() {
        Call[] looks = {x -> x.joined(0, 20), x -> x.fewest(0, 20), x -> x.ifDug(2, 0), x -> x.ifDug(41, 1),
            x -> x.ifDug(40, 2), x -> x.bestDig(), x -> x.ifPassed(30, 0), x -> x.ifPassed(30, 1),
            x -> x.ifPassed(1, 2), x -> x.nextMound(), x -> (long) (64 * x.hollowShare()), x -> x.digest()};
        for (int i = 0; i < looks.length; i++) {
            changesNothing(Edges::busy, "what would be, " + i, looks[i]);
        }
    }

    public static void main(String[] args) {
        part("What it is");
        edge("An object is used for at most 512 calls after it has been made; what later calls answer is free.",
                EdgeTermsTest::fiveHundredAndTwelveCalls);
        termsOfTheLawn();
        termsOfMoles();
        termsOfGardeners();
        termsOfCalls();
        finish();
    }

    private static void termsOfTheLawn() {
        part("The lawn");
        edge("There are 64 tufts, numbered from 0, in 8 rows of 8: the tuft t is in the row t / 8 and the column t % 8.",
                EdgeTermsTest::sixtyFourTufts);
        edge("Directions are 0 north (a row less), 1 east (a column more), 2 south (a row more), 3 west (a column less).",
                EdgeTermsTest::directions);
        edge("Two tufts are beside one another, if they are not the same, and their rows and their columns differ by at"
                + " most 1 each.", EdgeTermsTest::beside);
        edge("A tuft can have a mound, a root with a strength, 1 to 9, and a trap with a wait, 0 to 20 (a trap with the"
                + " wait 0 is set).", EdgeTermsTest::whatATuftHas);
        edge("It is opened, or not, not at first.", EdgeTermsTest::notOpenedAtFirst);
        part("Tunnels, trails");
        edge("A tunnel is a row of two or more tufts, each a step in some direction from the one before; its first and"
                + " its last tuft have mounds, which are not the same, and no other tuft of it has one.",
                EdgeTermsTest::shortestTunnel);
        edge("(A tuft can occur in it several times, and in several tunnels.", EdgeTermsTest::severalTimes);
        edge("There is no limit to how many tunnels there are, nor to how long one is.)", EdgeTermsTest::noLimit);
        edge("Tunnels are numbered from 0 in their order.", EdgeTermsTest::numberedInTheirOrder);
        edge("A mole has a trail: a row of tufts likewise, that begins at a mound and ends at the tuft where the mole is;"
                + " no other tuft of it but the first has a mound.", EdgeTermsTest::trails);
        edge("A tuft is hollow, if it occurs in a tunnel or in a trail.", EdgeTermsTest::hollow);
        edge("A trail is finished at its last tuft, when there is a mound: the tufts from its first one up to the first"
                + " occurrence of the last one make a tunnel, which is put behind all others;",
                EdgeTermsTest::finishedTrail);
        edge("but if its first and its last tuft are the same, there is no tunnel by it.",
                EdgeTermsTest::finishedWhereItBegan);
        edge("Then the mole's trail begins anew at this tuft, and the mole has all its air.", EdgeTermsTest::beginsAnew);
        part("A new mound");
        edge("When a mound comes up at a tuft that has none:", EdgeTermsTest::comesUpWhereNoneIs);
        edge("Each tunnel in which the tuft occurs is split: in place of it come the tufts up to the first occurrence,"
                + " and then, as the next tunnel, those from the last occurrence on.", EdgeTermsTest::tunnelsAreSplit);
        edge("Then, for each mole, from 0 on, in whose trail the tuft occurs (it cannot be the first one): the tufts up"
                + " to the first occurrence make a tunnel, which is put behind all others;", EdgeTermsTest::trailsAreSplit);
        edge("those from the last occurrence on are its trail.", EdgeTermsTest::lastOccurrenceOnATrail);
        edge("(Its air stays, but for the mole who pushes the mound up, who has all its air.)",
                EdgeTermsTest::airAtANewMound);
    }

    private static void termsOfMoles() {
        part("Moles, beats");
        edge("There are at most 4 moles, numbered from 0 in the order in which they came;",
                EdgeTermsTest::atMostFourMoles);
        edge("if one is caught, those behind it have numbers that are less by 1, and its trail is gone.",
                EdgeTermsTest::numbersBehindACaughtMole);
        edge("A mole has a plan, at most 20 directions, and air, setting 0 at most.", EdgeTermsTest::planAndAir);
        edge("In a beat, first the wait of each trap above 0 becomes 1 less.", EdgeTermsTest::waits);
        edge("Then, for each mole, from 0 on:", EdgeTermsTest::inTheirOrder);
        edge("If its plan is empty, it rests.", EdgeTermsTest::emptyPlan);
        edge("Otherwise it tries the first direction of the plan. If this leads beyond the lawn, the direction is taken"
                + " off the plan, and nothing else happens.", EdgeTermsTest::beyondTheLawn);
        edge("Its air becomes 1 less. If there is a root at the tuft there, its strength becomes 1 less (at 0 it is"
                + " gone), and the mole stays, and keeps its plan.", EdgeTermsTest::gnawing);
        edge("Otherwise the direction is taken off the plan, the mole goes there, and the tuft is put to its trail.",
                EdgeTermsTest::going);
        edge("If it went, and there is a trap: it is gone; and if it was set, the mole is caught, and nothing else"
                + " happens to it.", EdgeTermsTest::traps);
        edge("If it went, and there is a mound: its trail is finished.", EdgeTermsTest::toAMound);
        edge("Otherwise, if it has no air left: if there is no mound where it is, one comes up; if there is one, it has"
                + " all its air again.", EdgeTermsTest::noAirLeft);
    }

    private static void termsOfGardeners() {
        part("Gardeners");
        edge("When a gardener digs at a tuft, it is opened, and its root and its trap are gone.",
                EdgeTermsTest::digOpens);
        edge("All moles who are there are caught.", EdgeTermsTest::digCatches);
        edge("Then a mound there is gone, and all tunnels in which the tuft occurs fall in (are gone).",
                EdgeTermsTest::digTakesTunnels);
        edge("Then the trails of all moles in which the tuft occurs are gone; and for each of these moles, from 0 on, a"
                + " mound comes up where it is, if there is none, its trail begins there, and it has all its air.",
                EdgeTermsTest::digTakesTrails);
        edge("When a mound is raked, at which no trail begins, it is gone.", EdgeTermsTest::rakeTakesAMound);
        edge("If just two tunnels ended there, and their other mounds are not the same, they are put together to one, in"
                + " place of the one with the lower number: from the other mound of that one to the other mound of the"
                + " second one.", EdgeTermsTest::rakeJoins);
        edge("Otherwise all tunnels that ended there fall in.", EdgeTermsTest::rakeLetsFallIn);
        part("What is sure");
        edge("The number of a tuft is how many tufts beside it are hollow.", EdgeTermsTest::numbers);
        edge("Of an opened tuft it is known whether it is hollow, and its number.", EdgeTermsTest::openedIsKnown);
        edge("By these alone,", EdgeTermsTest::byTheseAlone);
        edge("again and again, until nothing more is found:", EdgeTermsTest::againAndAgain);
        edge("if an opened tuft has as many tufts beside it that are hollow for sure as its number tells, all others"
                + " beside it that are not known are not hollow for sure;", EdgeTermsTest::asManyAsItsNumber);
        edge("if it has as many beside it that are hollow for sure or not known as its number tells, all of these are"
                + " hollow for sure.", EdgeTermsTest::allThatAreLeft);
        part("Settings");
        edge("0: air, 2 to 20, at first 6.", EdgeTermsTest::airAtFirst);
        edge("(When it becomes less, moles who have more air have so much alone.)", EdgeTermsTest::airBecomesLess);
    }

    private static void termsOfCalls() {
        part("Input text");
        edge("The buffer has at most 60 characters.", EdgeTermsTest::sixtyCharacters);
        edge("Plans as a text are one or more parts with \";\" between them, each a mole, 0 to 3, \":\", and one or more"
                + " directions, \"n\", \"e\", \"s\", \"w\".", EdgeTermsTest::plansAsAText);
        edge("The buffer is read from left to right; a character is a syntax error if no plans as a text, of any length,"
                + " begin with the characters before it and this character.", EdgeTermsTest::syntaxErrors);
        part("Undo, the snapshot");
        edge("Each method that is marked \"undoable\" and does not throw an exception saves the state from before it"
                + " (also if it changes nothing): all, also what is counted so far, but the buffer, the saved states and"
                + " the snapshot.", EdgeTermsTest::savesAlsoWithoutAChange);
        edge("At most 6 states are saved; the oldest one is dropped first.", EdgeTermsTest::atMostSixStates);
        part("Exceptions");
        edge("A call that throws an exception changes nothing.", EdgeTermsTest::refusedChangesNothing);
        edge("If several exceptions apply, the one that is named first in the throws clause is thrown.",
                EdgeTermsTest::firstNamedIsThrown);
        edge("The constants: `NONE = -1`: There is nothing to return.", EdgeTermsTest::noneIsMinusOne);
        edge("Ahead of the calls `tuft`, `moleOf`, `tunnel`, `cell`, `count` the interface says: ---- looks; nothing is"
                + " changed.", EdgeTermsTest::looksChangeNothing);
        edge("Ahead of the calls `joined`, `fewest`, `ifDug`, `bestDig`, `ifPassed`, `nextMound`, `hollowShare`, `digest`"
                + " the interface says: ---- what would be; nothing is changed.",
                EdgeTermsTest::whatWouldBeChangesNothing);
    }
}
