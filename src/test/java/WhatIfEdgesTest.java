/** Promises 14 to 17 at their edges: no cues, no names, equals, the slowest and the fastest. */
public final class WhatIfEdgesTest {
    private static final String[] NAMES_3 = {"3 x name(0, #)"};

    public static void main(String[] args) {
        blame();
        blameWithoutCues();
        blameOfEquals();
        blameSums();
        speedFor();
        speedForAtLeast();
        speedForEachName();
        speedForWithoutNames();
        seenIf();
        seenIfCuesStay();
        bestCue();
        bestCueOfEquals();
        bestCueInPlace();
        Due.end("WhatIfEdgesTest");
    }

    private static void blame() {
        Run.range("14: what, 0 or 1", 0, 1, "BAD_VALUE", "blame(#)");
        Run.range("14: what, 0 or 1, with a cue", 0, 1, "BAD_VALUE", "blame(#)", "name(0, 0)", "cue(0, 1)");
        Run.due("14: the first line", Run.with(NAMES_3, "cue(0, 3)", "blame(0) = 0", "blame(1) = 0"));
        Run.due("14: the last line of 40", "40 x name(0, #)", "cue(39, 20)", "group(0, 1) = 14", "blame(0) = 39", "blame(1) = 0");
    }

    private static void blameWithoutCues() {
        Run.due("14: NONE if there are no cues", Run.with(NAMES_3, "set(SPEED, 3)", "group(0, 1) = 1", "blame(0) = NONE",
            "blame(1) = NONE", "cue(0, 1)", "cue(0, 0)", "blame(0) = NONE", "blame(1) = NONE"));
        Run.due("14: NONE without lines", "blame(0) = NONE", "blame(1) = NONE", "line(BLANK)", "cue(0, 1)", "blame(0) = 0", "drop(0)",
            "blame(0) = NONE", "blame(1) = NONE");
        Run.due("14: without names, but with a cue", "line(TITLE)", "line(BLANK)", "cue(1, 30)", "blame(0) = 1", "blame(1) = 0");
    }

    private static void blameOfEquals() {
        Run.due("14: of several the topmost line", Run.with(NAMES_3, "cue(1, 5)", "cue(2, 5)", "blame(0) = 1", "blame(1) = 0",
            "cue(0, 5)", "blame(0) = 0"));
        Run.due("14: of 40", "40 x line(BLANK)", "40 x cue(#, 30)", "blame(0) = 0", "blame(1) = 0");
        Run.due("14: a lower line, if the sum is less without it", Run.with(NAMES_3, "set(SPEED, 3)", "cue(1, 10)", "cue(2, 3)",
            "blame(0) = 2", "blame(1) = 0"));
    }

    private static void blameSums() {
        Run.due("14: a sum that is not 0", Run.with(NAMES_3, "set(SPEED, 3)", "cue(0, 10)", "group(0, 1) = 0", "blame(0) = 0",
            "blame(1) = 1"));
        Run.due("14: the sum of all groups", "set(SPEED, 3)", "name(0, 0)", "line(BLANK)", "name(0, 1)", "name(7, 0)", "line(BLANK)",
            "name(7, 1)", "name(3, 0)", "cue(0, 10)", "blame(1) = 2", "name(3, 1)", "name(3, 2)", "blame(1) = 3");
        Run.due("14: the other cues stay", Run.with(NAMES_3, "cue(0, 3)", "cue(2, 3)", "blame(0) = 2", "blame(1) = 1"));
    }

    private static void speedFor() {
        Run.range("15: ticks, 1 to 200", 1, 200, "BAD_VALUE", "speedFor(#)", "name(0, 0)");
        Run.range("15: ticks, 1 to 200, without names", 1, 200, "BAD_VALUE", "speedFor(#)");
        Run.due("15: the greatest SPEED is 30", "name(0, 0)", "speedFor(1) = 30", "speedFor(3) = 30", "speedFor(4) = 25");
        Run.due("15: the least SPEED is 1", "name(0, 0)", "speedFor(46) = 2", "speedFor(47) = 1", "speedFor(91) = 1", "speedFor(92) = NONE");
    }

    private static void speedForAtLeast() {
        Run.due("15: at least so many ticks", "name(0, 0)", "set(SPEED, 25)", "of(0, 6) = 4", "set(SPEED, 26)", "of(0, 6) = 3",
            "speedFor(4) = 25", "set(SPEED, 20)", "of(0, 6) = 5", "speedFor(5) = 20");
        Run.due("15: on the lowest screen", "set(SCREEN, 4)", "name(0, 0)", "speedFor(1) = 30", "speedFor(2) = 20", "speedFor(31) = 1",
            "speedFor(32) = NONE");
        Run.due("15: on the highest screen", "set(SCREEN, 20)", "name(0, 0)", "speedFor(191) = 1", "speedFor(192) = NONE",
            "speedFor(200) = NONE", "speedFor(6) = 30", "speedFor(7) = 28");
    }

    private static void speedForEachName() {
        Run.due("15: each name, of any group", "name(0, 0)", "speedFor(31) = 2", "speedFor(30) = 3", "name(7, 0)",
            "speedFor(31) = 2", "speedFor(30) = 3");
        Run.due("15: the last name, too", "2 x line(BLANK)", "name(0, 0)", "speedFor(31) = 3", "name(7, 0)", "speedFor(31) = 2",
            "speedFor(30) = 3");
        Run.due("15: a greater speed may show a name for longer", "2 x line(BLANK)", "name(0, 0)", "set(SPEED, 14)", "of(2, 6) = 6",
            "set(SPEED, 15)", "of(2, 6) = 7", "speedFor(7) = 15");
        Run.due("15: if there were no cues", "2 x name(0, #)", "speedFor(91) = 1", "cue(0, 30)", "cue(1, 30)", "speedFor(91) = 1",
            "cue(0, 1)", "cue(1, 1)", "speedFor(3) = 30", "speedFor(92) = NONE");
        Run.due("15: titles, logos and blanks do not count", "set(SCREEN, 4)", "set(LOGO, 4)", "line(PICTURE)", "line(TITLE)",
            "line(BLANK)", "speedFor(200) = 30", "name(0, 0)", "speedFor(2) = 27", "speedFor(31) = 1");
    }

    private static void speedForWithoutNames() {
        Run.due("15: without names 30", "speedFor(1) = 30", "speedFor(200) = 30", "line(TITLE)", "line(PICTURE)", "line(BLANK)",
            "cue(0, 1)", "speedFor(1) = 30", "speedFor(200) = 30", "name(0, 0)", "speedFor(200) = NONE", "drop(3)",
            "speedFor(200) = 30");
    }

    private static void seenIf() {
        Run.range("16: speed, 1 to 30", 1, 30, "BAD_VALUE", "seenIf(0, #)", "name(0, 0)");
        Run.range("16: NO_SUCH if there is no such line", 0, 2, "NO_SUCH", "seenIf(#, 1)", NAMES_3);
        Run.range("16: NO_SUCH if there is no such line of 40", 0, 39, "NO_SUCH", "seenIf(#, 1)", "40 x line(BLANK)");
        Run.due("16: NO_SUCH without lines", "seenIf(0, 1) = NO_SUCH");
        Run.due("16: the slowest and the fastest", "name(0, 0)", "seenIf(0, 1) = 91", "seenIf(0, 30) = 3", "seenIf(0, 5) = 19",
            "of(0, 6) = 19", "count(8) = 5");
        Run.due("16: 0 if it would never be seen", "line(PICTURE)", "set(LOGO, 4)", "set(SCREEN, 4)", "seenIf(0, 30) = 0",
            "seenIf(0, 20) = 1", "seenIf(0, 19) = 0", "seenIf(0, 1) = 1");
        Run.due("16: a line of every kind", "name(0, 0)", "line(TITLE)", "line(PICTURE)", "line(BLANK)", "seenIf(0, 10) = 10",
            "seenIf(1, 10) = 9", "seenIf(2, 10) = 8", "seenIf(3, 10) = 10");
    }

    private static void seenIfCuesStay() {
        Run.due("16: cues stay", Run.with(NAMES_3, "cue(0, 10)", "seenIf(0, 1) = 10", "seenIf(2, 30) = 10", "cue(0, 0)", "cue(1, 10)",
            "seenIf(0, 1) = 10", "seenIf(0, 30) = 8", "seenIf(0, 10) = 10", "seenIf(2, 9) = 9"));
    }

    private static void bestCue() {
        Run.range("17: group, 0 to 7", 0, 7, "BAD_VALUE", "bestCue(0, #, 0)", NAMES_3);
        Run.range("17: what, 0 or 1", 0, 1, "BAD_VALUE", "bestCue(0, 0, #)", NAMES_3);
        Run.range("17: NO_SUCH if there is no such line", 0, 2, "NO_SUCH", "bestCue(#, 0, 0)", NAMES_3);
        Run.range("17: NO_SUCH if there is no such line of 40", 0, 39, "NO_SUCH", "bestCue(#, 0, 1)", "40 x line(BLANK)");
        Run.due("17: NO_SUCH without lines", "bestCue(0, 0, 0) = NO_SUCH", "bestCue(0, 0, 1) = NO_SUCH");
    }

    private static void bestCueOfEquals() {
        Run.due("17: of several the greatest speed", "line(BLANK)", "bestCue(0, 0, 0) = 30", "bestCue(0, 0, 1) = 0", "name(0, 0)",
            "bestCue(0, 0, 0) = 30", "bestCue(1, 0, 0) = 30", "bestCue(1, 0, 1) = 0", "bestCue(1, 7, 0) = 30",
            "bestCue(1, 7, 1) = 0");
        Run.due("17: the slowest", "7 x name(0, #)", "set(SPEED, 1)", "bestCue(6, 0, 0) = 1", "bestCue(6, 0, 1) = 0");
        Run.due("17: below all names of the group nothing is different for those that are gone", "set(SCREEN, 4)", "2 x name(0, #)",
            "4 x line(TITLE)", "bestCue(5, 0, 0) = 30", "bestCue(5, 0, 1) = 0");
        Run.due("17: a cue on the first line, for names at the same distance", "set(SPEED, 1)", "name(0, 0)", "2 x line(BLANK)",
            "name(0, 1)", "bestCue(0, 0, 0) = 30", "bestCue(0, 0, 1) = 0", "drop(1)", "bestCue(0, 0, 0) = 29",
            "bestCue(0, 0, 1) = 0");
    }

    private static void bestCueInPlace() {
        Run.due("17: in place of the one that it has", "7 x name(0, #)", "cue(6, 30)", "group(0, 1) = 9", "bestCue(6, 0, 0) = 5",
            "bestCue(6, 0, 1) = 0", "of(6, 3) = 30");
        Run.due("17: the other cues stay", "7 x name(0, #)", "cue(0, 1)", "bestCue(6, 0, 0) = 1", "bestCue(6, 0, 1) = 0", "cue(0, 10)",
            "bestCue(6, 0, 0) = 11");
        Run.due("17: a spread that is not 0", "set(SPEED, 3)", "3 x name(0, #)", "line(TITLE)", "set(SCREEN, 4)", "group(0, 1) = 1",
            "cue(2, 30)", "bestCue(3, 0, 0) = 30", "bestCue(3, 0, 1) = 3");
        Run.due("17: the first and the last group", "7 x name(0, #)", "7 x name(7, #)", "bestCue(7, 7, 1) = 0",
            "bestCue(7, 0, 1) = 0", "bestCue(7, 7, 0) = 29", "bestCue(7, 0, 0) = 5");
    }
}
