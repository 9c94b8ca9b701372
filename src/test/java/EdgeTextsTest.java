/** The promises 11 to 17, texts, undo and the snapshot: each sentence that names a boundary has a test of its own. */
public final class EdgeTextsTest extends Edges {

    // ---- promise 11

    private static void appends() {
        // At the end: only so do these make plans.
        MolesLawn x = new MolesLawn();
        x.mole(0);
        type(x, "0:es");
        due("plans()", x.plans(), 2);
        due("the first", x.moleOf(0, 3), EAST);
        x.pass(2);
        due("where both lead", x.moleOf(0, 0), 9);
        // The sixtieth is a part of the text as well as the first.
        MolesLawn y = new MolesLawn();
        type(y, sixty("n"));
        due("firstError()", y.firstError(), 60);
        MolesLawn z = new MolesLawn();
        type(z, sixty("!"));
        due("firstError()", z.firstError(), 59);
    }

    private static String sixty(String last) {
        StringBuilder text = new StringBuilder("0:");
        while (text.length() < 59) {
            text.append('e');
        }
        return text.append(last).toString();
    }

    private static void codes() {
        MolesLawn x = new MolesLawn();
        due("append(33)", x.append(33), 1);
        due("append(126)", x.append(126), 2);
        for (int code = 34; code <= 91; code++) {
            due("append(" + code + ")", x.append(code), code - 31);
        }
        MolesLawn y = new MolesLawn();
        for (int code = 92; code <= 125; code++) {
            due("append(" + code + ")", y.append(code), code - 91);
        }
    }

    private static void appendReturns() {
        MolesLawn x = new MolesLawn();
        for (int i = 1; i <= 60; i++) {
            due("append", x.append('e'), i);
        }
        x.clearBuffer();
        due("append behind clearBuffer()", x.append('e'), 1);
        MolesLawn y = new MolesLawn();
        type(y, "0:n");
        y.plans();
        due("append behind plans()", y.append('e'), 1);
        y.undo();
        due("append behind undo()", y.append('e'), 2);
    }

    private static void appendNoCode() {
        refusedFor(Edges::busy, "append", MolesLawn::append, ARGUMENT, 32, 127, 31, 128, 0, -1, 65536 + 48, LEAST, MOST);
        refusedFor(Edges::empty, "append", MolesLawn::append, ARGUMENT, 32, 127);
        refusedFor(Edges::fullBuffer, "append to 60", MolesLawn::append, ARGUMENT, 32, 127);
    }

    private static void appendFull() {
        refusedFor(Edges::fullBuffer, "append to 60", MolesLawn::append, STATE, 33, 126, 'n', ';');
        MolesLawn x = new MolesLawn();
        type(x, sixty("n").substring(1));
        due("the sixtieth", x.append('n'), 60);
    }

    // ---- promise 12

    private static void clears() {
        MolesLawn x = fullBuffer();
        x.clearBuffer();
        due("firstError()", x.firstError(), 0);
        due("append('1')", x.append('1'), 1);
        due("firstError()", x.firstError(), 1);
        notUndoable(Edges::busy, "clearBuffer()", MolesLawn::clearBuffer);
        // Nothing of the old text comes up behind the new one.
        MolesLawn y = new MolesLawn();
        y.mole(0);
        type(y, "0:nnn");
        y.clearBuffer();
        type(y, "0:e");
        due("plans()", y.plans(), 1);
    }

    private static void clearReturns() {
        MolesLawn x = new MolesLawn();
        due("clearBuffer() of none", x.clearBuffer(), 0);
        x.append('!');
        due("clearBuffer() of one", x.clearBuffer(), 1);
        due("clearBuffer() again", x.clearBuffer(), 0);
        due("clearBuffer() of 60", fullBuffer().clearBuffer(), 60);
    }

    // ---- promise 13

    private static void findsTheFirst() {
        String[] texts = {"0:n!e!", "!", "x:n;4", "0:n;4:x;5", "0n:n;4"};
        int[] faults = {3, 0, 0, 4, 1};
        for (int i = 0; i < texts.length; i++) {
            MolesLawn x = new MolesLawn();
            type(x, texts[i]);
            due("firstError() of " + texts[i], x.firstError(), faults[i]);
            due("firstError() again", x.firstError(), faults[i]);
        }
        changesNothing(Edges::busy, "firstError()", MolesLawn::firstError);
    }

    private static void firstErrorReturns() {
        MolesLawn x = new MolesLawn();
        due("firstError() of none", x.firstError(), 0);
        x.append('0');
        due("firstError() of 0", x.firstError(), 1);
        due("firstError() of 60", fullBuffer().firstError(), 60);
        MolesLawn y = new MolesLawn();
        type(y, sixty("0"));
        due("the last of 60 is an error", y.firstError(), 59);
        MolesLawn z = new MolesLawn();
        z.append('n');
        due("the first is an error", z.firstError(), 0);
        type(z, "0:n");
        due("it stays the first", z.firstError(), 0);
    }

    // ---- promise 14

    private static void putsPlans() {
        // One after the other, at the ends of the plans; the moles 2 and 3 are not there.
        MolesLawn x = new MolesLawn();
        x.mole(0);
        x.mole(9);
        x.plan(1, WEST);
        type(x, "1:n;3:nn;0:s;1:e;2:n;0:e");
        due("plans()", x.plans(), 4);
        due("the buffer is clear", x.clearBuffer(), 0);
        dueMole(x, 0, 0, 6, 2, SOUTH);
        dueMole(x, 1, 9, 6, 3, WEST);
        x.pass(1);
        dueMole(x, 0, 8, 5, 1, EAST);
        dueMole(x, 1, 8, 5, 2, NORTH);
        x.pass(1);
        dueMole(x, 0, 9, 6, 0, NONE);
        dueMole(x, 1, 0, 6, 1, EAST);
        // No room: in the middle of a part; what comes for others still has some.
        MolesLawn y = fullPlan();
        y.mole(9);
        y.pass(2);
        type(y, "0:wwwe;1:s;0:e");
        due("plans()", y.plans(), 3);
        dueMole(y, 0, 0, 6, 20, NORTH);
        dueMole(y, 1, 9, 6, 1, SOUTH);
        y.pass(18);
        due("those that were put, at the end", 10 * y.moleOf(0, 2) + y.moleOf(0, 3), 20 + WEST);
    }

    private static MolesLawn typed(String text) {
        MolesLawn x = new MolesLawn();
        x.mole(0);
        type(x, text);
        return x;
    }

    private static void undoPlans() {
        undoable(() -> typed("0:nesw;0:e"), "plans()", MolesLawn::plans);
        undoable(() -> typed("1:n;3:e"), "plans() for moles that there are not", MolesLawn::plans);
        undoable(EdgeTextsTest::noRoom, "plans() without room", MolesLawn::plans);
        MolesLawn x = typed("0:nesw;0:e");
        due("plans()", x.plans(), 5);
        due("undo()", x.undo(), 1);
        due("all five are gone", x.moleOf(0, 2), 0);
        due("the buffer does not come back", x.clearBuffer(), 0);
    }

    private static MolesLawn noRoom() {
        MolesLawn x = fullPlan();
        type(x, "0:s");
        return x;
    }

    private static void plansReturns() {
        due("one", typed("0:n").plans(), 1);
        due("none", typed("1:n").plans(), 0);
        due("none, for want of room", noRoom().plans(), 0);
        due("twenty of 58", typed(sixty("n")).plans(), 20);
        MolesLawn x = fourMoles();
        type(x, "0:nnnnnnnnnnnnn;1:nnnnnnnnnnn;2:nnnnnnnnnnnn;3:nnnnnnnnnnnnn");
        due("all of 60 characters", x.plans(), 49);
    }

    private static void plansIncomplete() {
        String[] texts = {"", "0", "0:", "0:n;", "0:n;1", "0:n;1:", "n", "4:n", "0:n;4:n", "0:nx", "0:n!", "0:;1:n",
            "0:n;;1:n", ";0:n", "0n", "00:n", "0:n:", sixty("!"), sixty(";")};
        for (String text : texts) {
            refused(() -> typed(text), "plans() of " + text, MolesLawn::plans, ARGUMENT);
            MolesLawn x = typed(text);
            answer(x, MolesLawn::plans);
            due("the buffer stays", x.clearBuffer(), text.length());
        }
        MolesLawn x = typed("0:n;");
        answer(x, MolesLawn::plans);
        type(x, "0:e");
        due("it can be completed then", x.plans(), 2);
    }

    // ---- promise 15

    private static void restoresTheLatest() {
        MolesLawn x = new MolesLawn();
        x.mole(0);
        x.plan(0, EAST);
        x.plan(0, SOUTH);
        x.pass(1);
        long one = x.digest();
        x.pass(1);
        due("the latest alone", x.undo(), 4);
        due("all as it was", x.digest() == one ? 1 : 0, 1);
        due("and dropped: now the one before", x.undo(), 3);
        dueMole(x, 0, 0, 6, 2, EAST, 0, 1, 0);
        // A call behind an undo saves what is then.
        x.rest(0);
        due("undo()", x.undo(), 3);
        due("directions", x.moleOf(0, 2), 2);
        // An undo cannot be undone.
        due("undo()", x.undo(), 2);
        due("directions", x.moleOf(0, 2), 1);
        // Neither the buffer nor the snapshot comes back.
        MolesLawn y = new MolesLawn();
        y.root(0, 1);
        y.keep();
        y.root(0, 2);
        y.append('7');
        y.keep();
        y.undo();
        y.undo();
        due("the buffer", y.clearBuffer(), 1);
        y.restore();
        due("the snapshot", y.tuft(0, 1), 2);
    }

    private static void undoReturns() {
        MolesLawn x = new MolesLawn();
        x.root(0, 1);
        due("undo() of the only one", x.undo(), 0);
        for (int many = 1; many <= 8; many++) {
            MolesLawn y = new MolesLawn();
            for (int i = 0; i < many; i++) {
                y.root(0, i);
            }
            for (int left = Math.min(many, 6) - 1; left >= 0; left--) {
                due("undo() of " + many, y.undo(), left);
            }
            dueAlike("undo() of no more", answer(y, MolesLawn::undo), "throws.IllegalStateException");
        }
    }

    private static MolesLawn undone() {
        MolesLawn x = new MolesLawn();
        x.mole(0);
        x.keep();
        x.append('0');
        x.undo();
        return x;
    }

    private static void undoRefused() {
        refused(Edges::empty, "undo() of a new lawn", MolesLawn::undo, STATE);
        refused(EdgeTextsTest::undone, "undo() when all is undone", MolesLawn::undo, STATE);
        refused(Edges::fullBuffer, "undo() behind calls that save nothing", MolesLawn::undo, STATE);
        MolesLawn x = new MolesLawn();
        answer(x, y -> y.dig(64));
        dueAlike("undo() behind a refused call", answer(x, MolesLawn::undo), "throws.IllegalStateException");
    }

    // ---- promise 16

    private static void takesASnapshot() {
        MolesLawn x = rowOfMounds(1);
        x.plan(0, SOUTH);
        x.keep();
        x.set(9);
        x.keep();
        x.set(10);
        x.restore();
        due("of the one before nothing is left", x.count(13), 9);
        // It is as the lawn was then, whatever comes.
        x.pass(1);
        x.dig(1);
        x.restore();
        dueTunnels(x, row(0, 1, 2));
        dueMole(x, 0, 2, 2, 1, SOUTH, 2, 1, 2);
        dueTuft(x, 1, 5, 0);
        notUndoable(Edges::busy, "keep()", MolesLawn::keep);
        // Of an empty lawn as well.
        MolesLawn y = new MolesLawn();
        y.keep();
        y.mole(5);
        y.restore();
        due("moles and mounds", y.count(1) + y.count(3), 0);
    }

    private static void keepReturns() {
        due("keep() of an empty lawn", new MolesLawn().keep(), 0);
        for (int many = 1; many <= 3; many++) {
            due("keep()", rowOfMounds(many).keep(), many);
        }
        due("keep() of 480 tunnels", crowd().keep(), 480);
    }

    // ---- promise 17

    private static void restoresAndStays() {
        MolesLawn x = busy();
        x.restore();
        int saved = x.count(14);
        due("saved states", saved, 5);
        dueTunnels(x, row(0, 1, 2), row(2, 3, 4));
        dueCount(x, 0, 4);
        dueTuft(x, 62, 1, 0);
        due("the buffer stays", x.clearBuffer(), 4);
        x.dig(2);
        x.dig(40);
        due("it stays: restore() again", x.restore(), 2);
        dueTunnels(x, row(0, 1, 2), row(2, 3, 4));
        dueMole(x, 1, 40, 4, 0, NONE, 40, 1, 0);
        // Also when the state from before it is undone.
        x.undo();
        x.undo();
        due("restore() behind undo()", x.restore(), 2);
    }

    private static void undoOfARestore() {
        undoable(Edges::busy, "restore()", MolesLawn::restore);
        undoable(EdgeTextsTest::keptNow, "restore() of what is", MolesLawn::restore);
        undoable(EdgeTextsTest::keptEmpty, "restore() of an empty lawn", MolesLawn::restore);
    }

    private static MolesLawn keptNow() {
        MolesLawn x = new MolesLawn();
        x.mole(0);
        x.plan(0, EAST);
        x.keep();
        return x;
    }

    private static MolesLawn keptEmpty() {
        MolesLawn x = new MolesLawn();
        x.keep();
        x.mole(0);
        x.plan(0, EAST);
        return x;
    }

    private static void restoreReturns() {
        MolesLawn x = new MolesLawn();
        x.keep();
        due("restore() of an empty lawn", x.restore(), 0);
        for (int many = 1; many <= 3; many++) {
            MolesLawn y = rowOfMounds(many);
            y.keep();
            y.dig(1);
            due("restore()", y.restore(), many);
        }
        MolesLawn z = crowd();
        z.keep();
        z.dig(0);
        due("tunnels", z.count(4), 0);
        due("restore() of 480 tunnels", z.restore(), 480);
    }

    private static void restoreRefused() {
        refused(Edges::empty, "restore() of a new lawn", MolesLawn::restore, STATE);
        refused(Edges::fourMoles, "restore() where states are saved, but none is kept", MolesLawn::restore, STATE);
        busy();
        refused(() -> rowOfMounds(2), "restore() where another object has one", MolesLawn::restore, STATE);
    }

    public static void main(String[] args) {
        promises11To13();
        promise14();
        promises15To17();
        finish();
    }

    private static void promises11To13() {
        part("Promise 11: append");
        edge("Appends a character to the buffer.", EdgeTextsTest::appends);
        edge("- `code`: the character code, 33 to 126", EdgeTextsTest::codes);
        edge("Returns the new length of the buffer.", EdgeTextsTest::appendReturns);
        edge("Throws `IllegalArgumentException` if code is not 33 to 126", EdgeTextsTest::appendNoCode);
        edge("Throws `IllegalStateException` if the buffer has 60 characters", EdgeTextsTest::appendFull);
        part("Promise 12: clearBuffer");
        edge("Clears the buffer.", EdgeTextsTest::clears);
        edge("Returns the length that it had.", EdgeTextsTest::clearReturns);
        part("Promise 13: firstError");
        edge("Finds the first syntax error of the buffer.", EdgeTextsTest::findsTheFirst);
        edge("Returns the index of the first character that is a syntax error; the length of the buffer if there is"
                + " none.", EdgeTextsTest::firstErrorReturns);
    }

    private static void promise14() {
        part("Promise 14: plans");
        edge("Puts the directions in the buffer to the plans, one after the other, but those of moles that there are"
                + " not, and those for which there is no room, and clears the buffer.", EdgeTextsTest::putsPlans);
        edge("Undoable, as one call, also if none is put.", EdgeTextsTest::undoPlans);
        edge("Returns how many are put.", EdgeTextsTest::plansReturns);
        edge("Throws `IllegalArgumentException` if the buffer is not complete plans as a text (the buffer stays)",
                EdgeTextsTest::plansIncomplete);
    }

    private static void promises15To17() {
        part("Promise 15: undo");
        edge("Restores the latest saved state, and drops it.", EdgeTextsTest::restoresTheLatest);
        edge("Returns how many saved states are left.", EdgeTextsTest::undoReturns);
        edge("Throws `IllegalStateException` if there is none", EdgeTextsTest::undoRefused);
        part("Promise 16: keep");
        edge("Takes a snapshot, in place of the one before.", EdgeTextsTest::takesASnapshot);
        edge("Returns how many tunnels there are.", EdgeTextsTest::keepReturns);
        part("Promise 17: restore");
        edge("Restores the state of the snapshot, which stays.", EdgeTextsTest::restoresAndStays);
        edge("Undoable.", EdgeTextsTest::undoOfARestore);
        edge("Returns how many tunnels there are then.", EdgeTextsTest::restoreReturns);
        edge("Throws `IllegalStateException` if there is no snapshot", EdgeTextsTest::restoreRefused);
    }
}
