import java.io.IOException;
import java.nio.charset.StandardCharsets;
import java.nio.file.Files;
import java.nio.file.Path;

/**
 * What the edge tests share. An edge is one sentence of the document, quoted word for word, with a test of its
 * own. An answer that is not due is printed with the part of the document and the sentence that it breaks.
 */
abstract class Edges {
    static final int NORTH = 0;
    static final int EAST = 1;
    static final int SOUTH = 2;
    static final int WEST = 3;
    static final int NONE = -1;
    static final int LEAST = Integer.MIN_VALUE;
    static final int MOST = Integer.MAX_VALUE;
    static final Class<?> INDEX = IndexOutOfBoundsException.class;
    static final Class<?> ARGUMENT = IllegalArgumentException.class;
    static final Class<?> STATE = IllegalStateException.class;

    /** Makes a lawn; each lawn that it makes is made by the same calls. */
    interface Maker {
        MolesLawn make();
    }

    interface Call {
        long on(MolesLawn x);
    }

    interface CallWith {
        long on(MolesLawn x, int number);
    }

    private static final String DOCUMENT = readDocument();
    private static String part = "";
    private static String partText = "";
    private static String sentence = "";
    private static int edges = 0;
    private static int wrong = 0;

    // ---- the edges

    static {
        Thread guard = new Thread(Edges::endWhatDoesNotEnd);
        guard.setDaemon(true);
        guard.start();
    }

    // A call that does not end breaks its sentence, too; without this the test would not tell so.
    private static void endWhatDoesNotEnd() {
        try {
            Thread.sleep(300_000);
        } catch (InterruptedException e) {
            return;
        }
        System.out.println(part + " | " + sentence + " | does not end");
        Runtime.getRuntime().halt(1);
    }

    private static String readDocument() {
        try {
            return Files.readString(Path.of("../shared/DOC.md"), StandardCharsets.UTF_8);
        } catch (IOException e) {
            throw new IllegalStateException("../shared/DOC.md cannot be read from here", e);
        }
    }

    /** The heading of the part of the document in which the next sentences stand. */
    static void part(String heading) {
        part = heading;
        partText = "";
        boolean inside = false;
        for (String line : DOCUMENT.split("\n")) {
            if (line.replaceFirst("^#+ ", "").equals(heading)) {
                inside = true;
            } else if (inside && line.startsWith("## ")) {
                break;
            }
            partText += inside ? line + "\n" : "";
        }
    }

    static void edge(String itsSentence, Runnable test) {
        sentence = itsSentence;
        edges++;
        if (!partText.contains(sentence)) {
            wrong("this sentence is not in the document");
        }
        try {
            test.run();
        } catch (RuntimeException e) {
            wrong("the test was ended by " + e);
        }
    }

    static void finish() {
        System.out.println(wrong == 0 ? edges + " edges hold" : wrong + " answers at edges are not as due");
        if (wrong != 0) {
            System.exit(1);
        }
    }

    private static void wrong(String what) {
        wrong++;
        System.out.println(part + " | " + sentence + " | " + what);
    }

    static void due(String call, long got, long want) {
        if (got != want) {
            wrong(call + " answered " + got + ", due is " + want);
        }
    }

    static void dueAlike(String what, String got, String want) {
        if (!got.equals(want)) {
            wrong(what + ": " + got + ", due is " + want);
        }
    }

    // ---- lawns

    static MolesLawn empty() {
        return new MolesLawn();
    }

    static void walk(MolesLawn x, int mole, int... directions) {
        for (int direction : directions) {
            x.plan(mole, direction);
        }
        x.pass(directions.length);
    }

    static void type(MolesLawn x, String text) {
        for (int i = 0; i < text.length(); i++) {
            x.append(text.charAt(i));
        }
    }

    /** Mounds at 0, 2, 4, .., each with a tunnel to the next one; one mole, at the last mound, with the air 2. */
    static MolesLawn rowOfMounds(int tunnels) {
        MolesLawn x = new MolesLawn();
        x.set(2);
        x.mole(0);
        for (int i = 0; i < tunnels; i++) {
            walk(x, 0, EAST, EAST);
        }
        return x;
    }

    /** Moles at 0, 9, 18 and 27, and the saved states of these calls. */
    static MolesLawn fourMoles() {
        MolesLawn x = new MolesLawn();
        for (int i = 0; i < 4; i++) {
            x.mole(9 * i);
        }
        return x;
    }

    /**
     * Something of all: three tunnels, two moles with trails and plans, roots, traps, an opened tuft, a buffer, a
     * snapshot of another state, and four saved states.
     */
    static MolesLawn busy() {
        MolesLawn x = new MolesLawn();
        x.set(2);
        x.mole(0);
        walk(x, 0, EAST, EAST, EAST, EAST);
        x.set(4);
        x.dig(33);
        x.mole(40);
        x.root(11, 3);
        x.root(63, 1);
        x.trap(44, 2);
        x.trap(56, 20);
        x.keep();
        walk(x, 0, SOUTH, SOUTH);
        walk(x, 0, WEST, WEST);
        walk(x, 1, EAST, EAST);
        type(x, "0:enwn;1:ees");
        x.plans();
        x.dig(25);
        int left = x.count(14);
        for (int i = 0; i < left; i++) {
            x.undo();
        }
        x.root(62, 2);
        walk(x, 1, EAST);
        x.plan(1, EAST);
        type(x, "1:n;");
        return x;
    }

    /** One tunnel, 0 1 2 10 9 1 2 3 4, that has the tufts 1 and 2 twice; a mole at 4 with the air 8. */
    static MolesLawn loop() {
        MolesLawn x = new MolesLawn();
        x.set(8);
        x.mole(0);
        walk(x, 0, EAST, EAST, SOUTH, WEST, NORTH, EAST, EAST, EAST);
        return x;
    }

    /** A mole at 0 with 19 directions that lead beyond the lawn, and one south. */
    static MolesLawn fullPlan() {
        MolesLawn x = new MolesLawn();
        x.mole(0);
        type(x, "0:nnnnnnnnnnnnnnnnnnn");
        x.plans();
        x.plan(0, SOUTH);
        return x;
    }

    /** A buffer with 60 characters, which are complete plans as a text. */
    static MolesLawn fullBuffer() {
        MolesLawn x = new MolesLawn();
        type(x, "0:nesw;1:nesw;2:nesw;3:nesw;0:nesw;1:nesw;2:nesw;3:nesw;0:ne");
        return x;
    }

    /** 480 tunnels, to and fro between 0 and 1; made by 506 calls. */
    static MolesLawn crowd() {
        MolesLawn x = new MolesLawn();
        x.mole(0);
        x.mole(1);
        for (int round = 0; round < 24; round++) {
            for (int i = 0; i < 20; i++) {
                x.plan(0, i % 2 == 0 ? EAST : WEST);
            }
            x.pass(20);
        }
        return x;
    }

    /** A mound at each tuft, and nothing else; made by 256 calls. */
    static MolesLawn moundsEverywhere() {
        MolesLawn x = new MolesLawn();
        for (int t = 0; t < 64; t++) {
            boolean last = t % 8 == 7;
            x.mole(t);
            x.trap(last ? t - 1 : t + 1, 0);
            walk(x, 0, last ? WEST : EAST);
        }
        return x;
    }

    /** The direction of the step i, from 0, of the way over all tufts, from 0 to 56, row by row. */
    static int wayOverAll(int i) {
        return i % 8 == 7 ? SOUTH : i / 8 % 2 == 0 ? EAST : WEST;
    }

    /** A mound at each tuft, and 63 tunnels of two tufts, one after the other, from 0 to 56; made by 324 calls. */
    static MolesLawn chain() {
        MolesLawn x = moundsEverywhere();
        x.mole(0);
        for (int i = 0; i < 63; i++) {
            x.plan(0, wayOverAll(i));
            if (i % 20 == 19 || i == 62) {
                x.pass(20);
            }
        }
        return x;
    }

    /** All tufts are hollow, by the way over all of one mole, with the air 20; made by 69 calls. */
    static MolesLawn hollowEverywhere() {
        MolesLawn x = new MolesLawn();
        x.set(20);
        x.mole(0);
        for (int i = 0; i < 63; i++) {
            x.plan(0, wayOverAll(i));
            if (i % 20 == 19 || i == 62) {
                x.pass(20);
            }
        }
        return x;
    }

    // ---- what a lawn has, and what a mole, and a tunnel

    static void dueTunnel(MolesLawn x, int tunnel, int... tufts) {
        due("tunnel(" + tunnel + ", 2)", x.tunnel(tunnel, 2), tufts.length);
        for (int i = 0; i < tufts.length; i++) {
            due("cell(" + tunnel + ", " + i + ")", x.cell(tunnel, i), tufts[i]);
        }
    }

    /** All tunnels: just these. */
    static void dueTunnels(MolesLawn x, int[]... tunnels) {
        due("count(4)", x.count(4), tunnels.length);
        for (int i = 0; i < tunnels.length && i < x.count(4); i++) {
            dueTunnel(x, i, tunnels[i]);
        }
    }

    static int[] row(int... tufts) {
        return tufts;
    }

    static void dueMole(MolesLawn x, int mole, int... numbers) {
        for (int what = 0; what < numbers.length; what++) {
            due("moleOf(" + mole + ", " + what + ")", x.moleOf(mole, what), numbers[what]);
        }
    }

    static void dueTuft(MolesLawn x, int tuft, int what, int want) {
        due("tuft(" + tuft + ", " + what + ")", x.tuft(tuft, what), want);
    }

    static void dueCount(MolesLawn x, int what, int want) {
        due("count(" + what + ")", x.count(what), want);
    }

    static void dueShare(MolesLawn x, double want) {
        due("the bits of hollowShare()", Double.doubleToRawLongBits(x.hollowShare()), Double.doubleToRawLongBits(want));
    }

    // ---- exceptions, and what changes nothing

    static String answer(MolesLawn x, Call call) {
        try {
            return Long.toString(call.on(x));
        } catch (RuntimeException e) {
            return "throws." + e.getClass().getSimpleName();
        }
    }

    /** The call throws just this exception, and changes nothing, on an object that the maker makes. */
    static boolean refused(Maker maker, String name, Call call, Class<?> want) {
        String got = answer(maker.make(), call);
        dueAlike(name, got, "throws." + want.getSimpleName());
        if (got.equals("throws." + want.getSimpleName())) {
            changesNothing(maker, name, call);
            return true;
        }
        return false;
    }

    /** The same for an empty lawn and for a busy one. */
    static void refusedAlways(String name, Call call, Class<?> want) {
        refused(Edges::empty, name + " of an empty lawn", call, want);
        refused(Edges::busy, name + " of a busy lawn", call, want);
    }

    /**
     * The call throws just this exception for each of these numbers, and changes nothing. It ends with the first
     * one that is not refused, as a class that takes any number might not end in a lifetime.
     */
    static void refusedFor(Maker maker, String name, CallWith call, Class<?> want, int... numbers) {
        for (int number : numbers) {
            if (!refused(maker, name + " with " + number, x -> call.on(x, number), want)) {
                return;
            }
        }
    }

    /** Behind the call all is as if it had not been made: the lawn, the buffer, the saved states, the snapshot. */
    static void changesNothing(Maker maker, String name, Call call) {
        for (int way = 0; way < 3; way++) {
            MolesLawn x = maker.make();
            answer(x, call);
            dueAlike("behind " + name + ", way " + way, lifeOf(x, way), lifeOf(maker.make(), way));
        }
    }

    /**
     * The call saves the state from before it, as one, and undo brings back all but the buffer. The maker's lawn
     * has five saved states at most.
     */
    static void undoable(Maker maker, String name, Call call) {
        MolesLawn x = maker.make();
        int saved = x.count(14);
        due("saved states before " + name + " must be five at most", saved <= 5 ? 1 : 0, 1);
        call.on(x);
        due("saved states behind " + name, x.count(14), saved + 1);
        due("undo() of " + name, x.undo(), saved);
        for (int way = 0; way < 3; way++) {
            x = maker.make();
            call.on(x);
            x.undo();
            x.clearBuffer();
            MolesLawn y = maker.make();
            y.clearBuffer();
            dueAlike("behind undo() of " + name + ", way " + way, lifeOf(x, way), lifeOf(y, way));
        }
    }

    /** The call saves no state, and drops none. */
    static void notUndoable(Maker maker, String name, Call call) {
        MolesLawn x = maker.make();
        int saved = x.count(14);
        call.on(x);
        due("saved states behind " + name, x.count(14), saved);
        MolesLawn y = maker.make();
        x.clearBuffer();
        y.clearBuffer();
        dueAlike("what undo() brings behind " + name, lifeOf(x, 0), lifeOf(y, 0));
    }

    /** What the object answers from now on, in one of three ways to go on: undo, restore, beats. */
    private static String lifeOf(MolesLawn x, int way) {
        StringBuilder told = new StringBuilder();
        told.append(x.digest()).append(' ').append(x.firstError());
        int rounds = way == 0 ? 7 : way == 1 ? 1 : 3;
        for (int i = 0; i < rounds; i++) {
            Call next = way == 0 ? MolesLawn::undo : way == 1 ? MolesLawn::restore : lawn -> lawn.pass(20);
            told.append(' ').append(answer(x, next)).append(' ').append(x.digest());
        }
        return told.toString();
    }
}
