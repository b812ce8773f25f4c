/** Promises 21 to 23 at their edges: no state, six and one more, what is recorded, and what undo and the slots leave alone. */
public final class UndoEdgesTest {
    public static void main(String[] args) {
        notPossible();
        sixStates();
        recorded();
        notRecorded();
        refusedAreNotRecorded();
        padIsNotUndone();
        slotsAreNotUndone();
        historyIsNotUndone();
        saveSlots();
        saveOverwrites();
        restoreSlots();
        slotIsKept();
        restoreIsAChange();
        everythingComesBack();
        Due.end("UndoEdgesTest");
    }

    private static void notPossible() {
        Run.due("21: NOT_POSSIBLE if there is none", "undo() = NOT_POSSIBLE", "line(TITLE)", "undo() = 0", "undo() = NOT_POSSIBLE",
            "count(0) = 0", "line(BLANK) = 0", "undo() = 0", "undo() = NOT_POSSIBLE");
    }

    private static void sixStates() {
        Run.due("21: six changes can be undone", "6 x name(0, #)", "count(11) = 6", "undo() = 5", "undo() = 4", "undo() = 3",
            "undo() = 2", "undo() = 1", "undo() = 0", "count(0) = 0", "undo() = NOT_POSSIBLE");
        Run.due("21: of seven the oldest one is dropped", "7 x name(0, #)", "count(11) = 6", "5 x undo()", "count(0) = 2",
            "undo() = 0", "count(0) = 1", "of(0, 2) = 0", "undo() = NOT_POSSIBLE");
        Run.due("21: of 40 only six are kept", "40 x name(0, #)", "count(11) = 6", "5 x undo()", "undo() = 0", "count(0) = 34",
            "undo() = NOT_POSSIBLE");
        Run.due("21: again and again", "9 x name(0, #)", "4 x undo()", "count(11) = 2", "count(0) = 5", "5 x line(TITLE)",
            "count(11) = 6", "5 x undo()", "count(0) = 5", "undo() = 0", "count(0) = 4", "undo() = NOT_POSSIBLE");
        Run.due("21: five and one less", "5 x line(BLANK)", "count(11) = 5", "undo() = 4", "undo() = 3", "count(0) = 3");
    }

    private static void recorded() {
        String[] some = {"name(0, 1)", "save(0)", "put('t')"};
        String[] same = {"set(SPEED, 5)", "set(SCREEN, 10)", "set(LOGO, 3)", "cue(0, 0)", "move(0, 0)", "turn(0, 1)", "restore(0)"};
        for (String call : same) {
            Run.due("21: records, also if nothing is different then", Run.with(some, call, "count(11) = 2", "of(0, 2) = 1",
                "undo() = 1", "of(0, 2) = 1", "undo() = 0", "count(0) = 0"));
        }
        String[] different = {"set(SPEED, 30)", "set(SCREEN, 4)", "set(LOGO, 1)", "name(0, 2)", "line(TITLE)", "cue(0, 9)", "drop(0)",
            "read()"};
        for (String call : different) {
            Run.due("21: each method that is a change records", Run.with(some, call, "count(11) = 2", "undo() = 1", "count(0) = 1",
                "of(0, 2) = 1", "of(0, 3) = 0", "count(7) = 10", "count(8) = 5", "count(9) = 3", "undo() = 0", "count(0) = 0"));
        }
    }

    private static void notRecorded() {
        String[] none = {"count(0)", "of(0, 0)", "group(0, 0)", "at(9, 0)", "blame(0)", "speedFor(1)", "seenIf(0, 1)",
            "bestCue(0, 0, 0)", "fault()", "save(0)", "save(1)", "put('t')", "wipe()"};
        for (String call : none) {
            Run.due("21: a method that is no change records nothing", "name(0, 1)", "cue(0, 7)", call, "count(11) = 2", "undo() = 1",
                "of(0, 3) = 0", "undo() = 0", "count(0) = 0");
        }
        Run.due("21: undo is not undone", "3 x name(0, #)", "undo() = 2", "undo() = 1", "count(0) = 1", "undo() = 0", "count(0) = 0");
    }

    private static void refusedAreNotRecorded() {
        String[] refused = {"set(3, 1)", "set(SPEED, 31)", "name(8, 1)", "name(0, 1000)", "line(NAME)", "cue(1, 1)", "cue(0, 31)",
            "move(0, 1)", "move(1, 0)", "drop(1)", "turn(8, 1)", "turn(0, 41)", "turn(1, 1)", "read()", "restore(2)", "restore(1)"};
        for (String call : refused) {
            Run.due("21: an error records nothing", "name(0, 1)", call, "count(11) = 1", "undo() = 0", "count(0) = 0");
        }
        Run.due("21: TOO_MANY records nothing", "34 x line(BLANK)", "6 x line(TITLE)", "line(BLANK) = TOO_MANY",
            "name(0, 0) = TOO_MANY", "put('t')", "read() = TOO_MANY", "5 x undo()", "undo() = 0", "count(0) = 34");
    }

    private static void padIsNotUndone() {
        Run.due("21: everything except the pad", "line(TITLE)", "put('b') = 1", "undo() = 0", "count(10) = 1", "read() = 1",
            "of(0, 0) = BLANK");
        Run.due("21: the pad that was read stays empty", "put('b')", "read() = 1", "undo() = 0", "count(10) = 0", "count(0) = 0",
            "put('t') = 1", "read() = 1", "of(0, 0) = TITLE");
        Run.due("21: a pad that was wiped stays empty", "put('b')", "line(TITLE)", "wipe() = 1", "undo() = 0", "count(10) = 0");
    }

    private static void slotsAreNotUndone() {
        Run.due("21: everything except the slots", "name(0, 1)", "save(0) = 1", "undo() = 0", "restore(0) = 1", "of(0, 2) = 1",
            "undo() = 0", "restore(1) = NOT_POSSIBLE");
        Run.due("21: what a slot got last stays", "name(0, 1)", "save(0) = 1", "name(0, 2)", "save(0) = 2", "undo() = 1",
            "restore(0) = 2", "of(1, 2) = 2");
    }

    private static void historyIsNotUndone() {
        Run.due("21: behind an undo the history goes on", "name(0, 1)", "name(0, 2)", "undo() = 1", "name(0, 3)", "count(11) = 2",
            "of(1, 2) = 3", "undo() = 1", "undo() = 0", "count(0) = 0");
        Run.due("23: restore leaves the history", "2 x name(0, #)", "save(0)", "2 x name(0, #)", "restore(0) = 2", "count(11) = 5",
            "undo() = 4", "count(0) = 4", "undo() = 3", "count(0) = 3");
    }

    private static void saveSlots() {
        Run.range("22: slot, 0 or 1", 0, 1, "BAD_VALUE", "save(#)");
        Run.range("22: slot, 0 or 1, with lines", 0, 1, "BAD_VALUE", "save(#)", "40 x line(BLANK)");
        Run.due("22: how many lines there are", "save(0) = 0", "line(BLANK)", "save(1) = 1", "39 x line(TITLE)", "save(0) = 40",
            "restore(1) = 1", "restore(0) = 40");
        Run.due("22: each slot by itself", "name(0, 1)", "save(0) = 1", "name(0, 2)", "save(1) = 2", "name(0, 3)", "restore(0) = 1",
            "restore(1) = 2", "restore(0) = 1", "of(0, 2) = 1");
        Run.due("22: is no change", "save(0)", "count(11) = 0", "undo() = NOT_POSSIBLE");
    }

    private static void saveOverwrites() {
        Run.due("22: overwrites what was saved there", "3 x name(0, #)", "cue(2, 9)", "save(0) = 3", "drop(2)", "drop(1)",
            "save(0) = 1", "restore(0) = 1", "count(5) = 0", "of(1, 0) = NO_SUCH");
        Run.due("22: overwrites with no lines", "name(0, 1)", "save(1) = 1", "drop(0)", "save(1) = 0", "name(0, 2)", "restore(1) = 0",
            "count(0) = 0");
    }

    private static void restoreSlots() {
        Run.range("23: slot, 0 or 1", 0, 1, "BAD_VALUE", "restore(#)", "save(0)", "save(1)");
        Run.due("23: NOT_POSSIBLE if nothing was saved in it", "line(BLANK)", "restore(0) = NOT_POSSIBLE",
            "restore(1) = NOT_POSSIBLE", "save(1) = 1", "restore(0) = NOT_POSSIBLE", "restore(1) = 1", "save(0) = 1",
            "restore(0) = 1");
        Run.due("23: no lines were saved in it", "save(0) = 0", "line(BLANK)", "restore(0) = 0", "count(0) = 0", "undo() = 1",
            "count(0) = 1");
        Run.due("23: 40 lines were saved in it", "40 x name(7, #)", "save(0) = 40", "40 x drop(0)", "restore(0) = 40",
            "of(39, 2) = 39", "line(BLANK) = TOO_MANY", "undo() = 5", "count(0) = 0");
    }

    private static void slotIsKept() {
        Run.due("23: the slot keeps it", "name(0, 1)", "cue(0, 7)", "save(0) = 1", "restore(0) = 1", "cue(0, 30)", "turn(0, 1)",
            "name(0, 2)", "set(SPEED, 1)", "restore(0) = 1", "of(0, 3) = 7", "count(8) = 5", "drop(0)", "restore(0) = 1",
            "of(0, 2) = 1", "of(0, 3) = 7");
        Run.due("22: later changes do not come into the slot", "2 x name(0, #)", "save(1) = 2", "move(0, 1)", "cue(0, 3)",
            "set(SCREEN, 4)", "restore(1) = 2", "of(0, 2) = 0", "of(0, 3) = 0", "count(7) = 10");
    }

    private static void restoreIsAChange() {
        Run.due("23: is a change", "save(0)", "name(0, 1)", "restore(0) = 0", "count(11) = 2", "undo() = 1", "count(0) = 1",
            "of(0, 2) = 1", "undo() = 0", "count(0) = 0");
        Run.due("23: the pad stays", "put('t')", "save(0)", "put(',b') = 3", "restore(0) = 0", "count(10) = 3", "read() = 2");
        Run.due("23: the other slot stays", "name(0, 1)", "save(0)", "name(0, 2)", "save(1)", "restore(0) = 1", "restore(1) = 2");
    }

    private static void everythingComesBack() {
        String[] state = {"name(7, 999)", "line(TITLE)", "line(PICTURE)", "line(BLANK)", "cue(0, 30)", "cue(2, 1)", "set(SCREEN, 20)",
            "set(SPEED, 30)", "set(LOGO, 4)"};
        String[] known = {"count(0) = 4", "count(2) = 8", "count(5) = 2", "count(7) = 20", "count(8) = 30", "count(9) = 4",
            "of(0, 0) = NAME", "of(0, 1) = 7", "of(0, 2) = 999", "of(0, 3) = 30", "of(1, 0) = TITLE", "of(1, 1) = NONE",
            "of(2, 0) = PICTURE", "of(2, 3) = 1", "of(3, 0) = BLANK", "of(3, 2) = NONE"};
        String[] other = {"set(SCREEN, 4)", "set(SPEED, 1)", "set(LOGO, 1)", "restore(1)"};
        Run.due("23: everything is restored", Run.with(Run.with(Run.with(Run.with(new String[] {"save(1)"}, state), "save(0) = 4"),
            other), Run.with(new String[] {"restore(0) = 4"}, known)));
        Run.due("21: everything is undone", Run.with(Run.with(Run.with(new String[] {"save(1)"}, state), other),
            Run.with(new String[] {"4 x undo()"}, known)));
    }
}
