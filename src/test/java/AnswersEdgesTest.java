/** Promises 10 to 13 at their edges: what has an answer and what has none, nothing there and all full. */
public final class AnswersEdgesTest {
    /** At 3 tenths a tick each group has a name that is seen for 30 ticks and one that is seen for 31. */
    private static final String[] EIGHT_UNEQUAL_GROUPS = {"set(SPEED, 3)",
        "name(0, 0)", "line(BLANK)", "name(0, 9)", "name(1, 0)", "line(BLANK)", "name(1, 9)",
        "name(2, 0)", "line(BLANK)", "name(2, 9)", "name(3, 0)", "line(BLANK)", "name(3, 9)",
        "name(4, 0)", "line(BLANK)", "name(4, 9)", "name(5, 0)", "line(BLANK)", "name(5, 9)",
        "name(6, 0)", "line(BLANK)", "name(6, 9)", "name(7, 0)", "line(BLANK)", "name(7, 9)"};

    public static void main(String[] args) {
        of();
        ofEachKind();
        ofFirstAndLastLine();
        ofSeenOrNot();
        group();
        groupWithoutNames();
        groupOfAll();
        leastSeenLine();
        at();
        atBehindTheEnd();
        atWithoutLines();
        atFullScreen();
        count();
        countNothing();
        countAll();
        countOneOfEach();
        Due.end("AnswersEdgesTest");
    }

    private static void of() {
        Run.range("10: what, 0 to 8", 0, 8, "BAD_VALUE", "of(0, #)", "name(0, 0)");
        Run.range("10: NO_SUCH if there is no such line", 0, 2, "NO_SUCH", "of(#, 0)", "3 x line(TITLE)");
        Run.range("10: NO_SUCH if there is no such line of 40", 0, 39, "NO_SUCH", "of(#, 6)", "40 x name(0, #)");
        Run.due("10: NO_SUCH without lines", "of(0, 0) = NO_SUCH", "of(-1, 0) = NO_SUCH", "line(TITLE)", "drop(0)",
            "of(0, 0) = NO_SUCH", "name(1, 1)", "undo()", "of(0, 2) = NO_SUCH");
    }

    private static void ofEachKind() {
        Run.due("10: a name", "name(7, 999)", "of(0, 0) = NAME", "of(0, 1) = 7", "of(0, 2) = 999", "of(0, 3) = 0", "of(0, 4) = 0",
            "of(0, 5) = 1", "of(0, 6) = 19", "of(0, 7) = 2", "of(0, 8) = 20");
        Run.due("10: a title has no group and no number", "line(TITLE)", "of(0, 0) = TITLE", "of(0, 1) = NONE", "of(0, 2) = NONE",
            "of(0, 3) = 0", "of(0, 5) = 2", "of(0, 6) = 17", "of(0, 7) = 4", "of(0, 8) = 20");
        Run.due("10: a logo has no group and no number", "line(PICTURE)", "of(0, 0) = PICTURE", "of(0, 1) = NONE",
            "of(0, 2) = NONE", "of(0, 3) = 0", "of(0, 5) = 3", "of(0, 6) = 15", "of(0, 7) = 6", "of(0, 8) = 20");
        Run.due("10: a blank has no group and no number", "line(BLANK)", "of(0, 0) = BLANK", "of(0, 1) = NONE", "of(0, 2) = NONE",
            "of(0, 3) = 0", "of(0, 5) = 1", "of(0, 6) = 19", "of(0, 7) = 2", "of(0, 8) = 20");
        Run.due("10: the speed of its cue, 0 without one", "2 x line(BLANK)", "of(0, 3) = 0", "cue(0, 1)", "of(0, 3) = 1",
            "cue(0, 30)", "of(0, 3) = 30", "of(1, 3) = 0", "cue(0, 0)", "of(0, 3) = 0");
    }

    private static void ofFirstAndLastLine() {
        Run.due("10: how many rows are above it", "40 x line(PICTURE)", "of(0, 4) = 0", "of(1, 4) = 3", "of(39, 4) = 117",
            "set(LOGO, 4)", "of(0, 4) = 0", "of(39, 4) = 156", "set(LOGO, 1)", "of(39, 4) = 39");
        Run.due("10: the last of 40 lines", "39 x line(TITLE)", "name(3, 33)", "cue(39, 30)", "of(39, 0) = NAME", "of(39, 1) = 3",
            "of(39, 2) = 33", "of(39, 3) = 30", "of(39, 4) = 78", "of(39, 5) = 1", "of(39, 6) = 3", "of(39, 7) = 157",
            "of(39, 8) = 159");
    }

    private static void ofSeenOrNot() {
        String[] logo = {"set(SCREEN, 4)", "set(LOGO, 4)", "line(PICTURE)"};
        Run.due("10: never seen: 0 ticks, and no first or last time", Run.with(logo, "set(SPEED, 30)", "of(0, 6) = 0",
            "of(0, 7) = NONE", "of(0, 8) = NONE"));
        Run.due("10: seen once: the first time is the last one", Run.with(logo, "set(SPEED, 20)", "of(0, 6) = 1", "of(0, 7) = 2",
            "of(0, 8) = 2"));
        Run.due("10: seen for the longest time", "set(SCREEN, 20)", "set(SPEED, 1)", "name(0, 0)", "of(0, 6) = 191", "of(0, 7) = 10",
            "of(0, 8) = 200");
        Run.due("10: seen at the first time that there is", "set(SPEED, 30)", "line(PICTURE)", "of(0, 7) = 1", "of(0, 6) = 3",
            "set(LOGO, 4)", "of(0, 7) = 2", "of(0, 6) = 2");
    }

    private static void group() {
        Run.range("11: group, 0 to 7", 0, 7, "BAD_VALUE", "group(#, 0)", "8 x name(#, #)");
        Run.range("11: group, 0 to 7, without lines", 0, 7, "BAD_VALUE", "group(#, 4)");
        Run.range("11: what, 0 to 4", 0, 4, "BAD_VALUE", "group(0, #)", "name(0, 0)");
        Run.range("11: what, 0 to 4, without names", 0, 4, "BAD_VALUE", "group(0, #)");
        Run.due("11: both out of range", "group(8, 5) = BAD_VALUE", "group(-1, -1) = BAD_VALUE");
    }

    private static void groupWithoutNames() {
        String[] none = {"group(5, 0) = 0", "group(5, 1) = 0", "group(5, 2) = NONE", "group(5, 3) = NONE", "group(5, 4) = NONE"};
        Run.due("11: no lines", none);
        Run.due("11: no names of the group", Run.with(new String[] {"name(4, 1)", "name(6, 1)", "line(TITLE)", "line(PICTURE)",
            "line(BLANK)"}, none));
        Run.due("11: none any more", Run.with(new String[] {"name(4, 1)", "name(5, 1)", "drop(1)"}, none));
        Run.due("11: one name", "line(TITLE)", "name(5, 0)", "group(5, 0) = 1", "group(5, 1) = 0", "group(5, 2) = 19",
            "group(5, 3) = 1", "group(5, 4) = 0");
    }

    private static void groupOfAll() {
        Run.due("11: 40 names", "40 x name(7, #)", "group(7, 0) = 40", "group(7, 1) = 0", "group(7, 2) = 19", "group(7, 3) = 0",
            "group(7, 4) = 0", "group(6, 0) = 0");
        Run.due("11: the first name is the topmost", "line(BLANK)", "name(2, 999)", "name(2, 1)", "group(2, 4) = 999", "move(1, 2)",
            "group(2, 4) = 1", "turn(2, 1)", "group(2, 4) = 999", "drop(1)", "group(2, 4) = 1");
        Run.due("11: the names of another group do not count", EIGHT_UNEQUAL_GROUPS);
        for (int group = 0; group < 8; group++) {
            String own = "group(" + group + ", ";
            Run.due("11: of eight groups", Run.with(EIGHT_UNEQUAL_GROUPS, own + "0) = 2", own + "1) = 1", own + "2) = 30",
                own + "3) = " + 3 * group, own + "4) = 0", "turn(" + group + ", 1) = 9", own + "4) = 9"));
        }
    }

    private static void leastSeenLine() {
        Run.due("11: the first one that is seen so long", "set(SPEED, 3)", "6 x name(0, #)", "group(0, 2) = 30", "group(0, 3) = 0",
            "drop(0)", "group(0, 2) = 30", "group(0, 3) = 0", "of(1, 6) = 30", "of(2, 6) = 31");
        Run.due("11: not the first name, if a later one is seen shorter", "set(SPEED, 3)", "2 x line(BLANK)", "name(0, 1)",
            "name(0, 2)", "name(0, 3)", "of(2, 6) = 31", "of(3, 6) = 30", "of(4, 6) = 30", "group(0, 2) = 30", "group(0, 3) = 3");
        Run.due("11: the last one, if it alone is seen so short", "39 x name(0, #)", "name(0, 39)", "cue(39, 30)",
            "set(SCREEN, 4)", "set(SPEED, 1)", "of(39, 6) = 1", "group(0, 2) = 1", "group(0, 3) = 39");
    }

    private static void at() {
        Run.range("12: time, 0 to 9999", 0, 9999, "BAD_VALUE", "at(#, 4)", "name(0, 0)");
        Run.range("12: what, 0 to 4", 0, 4, "BAD_VALUE", "at(0, #)", "name(0, 0)");
        Run.range("12: what, 0 to 4, at the last time", 0, 4, "BAD_VALUE", "at(9999, #)");
        Run.due("12: both out of range", "at(10000, 5) = BAD_VALUE", "at(-1, -1) = BAD_VALUE");
        Run.due("12: the time 0", "name(0, 0)", "cue(0, 7)", "at(0, 0) = NONE", "at(0, 1) = NONE", "at(0, 2) = 0", "at(0, 3) = 7",
            "at(0, 4) = 0");
    }

    private static void atBehindTheEnd() {
        Run.due("12: behind the end of the scroll all goes on moving up", "name(0, 0)", "set(SPEED, 30)", "count(3) = 4",
            "at(3, 2) = 1", "at(4, 0) = NONE", "at(4, 1) = NONE", "at(4, 2) = 0", "at(4, 3) = 30", "at(4, 4) = 120", "at(5, 4) = 150",
            "at(9999, 0) = NONE", "at(9999, 1) = NONE", "at(9999, 2) = 0", "at(9999, 3) = 30", "at(9999, 4) = 299970");
        Run.due("12: behind the end at the speed of the last cue", "2 x name(0, #)", "cue(0, 30)", "cue(1, 1)", "count(3) = 91",
            "at(91, 4) = 120", "at(9999, 3) = 1", "at(9999, 4) = 10028");
    }

    private static void atWithoutLines() {
        Run.due("12: without lines all goes on moving up", "at(0, 0) = NONE", "at(0, 1) = NONE", "at(0, 2) = 0", "at(0, 3) = 5",
            "at(0, 4) = 0", "at(9999, 0) = NONE", "at(9999, 1) = NONE", "at(9999, 2) = 0", "at(9999, 3) = 5", "at(9999, 4) = 49995",
            "set(SPEED, 1)", "at(9999, 4) = 9999", "set(SPEED, 30)", "at(9999, 4) = 299970", "at(1, 4) = 30");
    }

    private static void atFullScreen() {
        String[] full = {"40 x name(0, #)", "set(SCREEN, 20)", "set(SPEED, 10)"};
        Run.due("12: as many as the screen has rows", Run.with(full, "at(19, 2) = 19", "at(20, 0) = 0", "at(20, 1) = 19",
            "at(20, 2) = 20", "at(21, 0) = 1", "at(21, 1) = 20", "at(21, 2) = 20"));
        Run.due("12: one less between two rows", Run.with(full, "set(SPEED, 5)", "at(41, 0) = 1", "at(41, 1) = 19", "at(41, 2) = 19"));
        Run.due("12: the last line alone", Run.with(full, "at(58, 0) = 38", "at(58, 1) = 39", "at(59, 0) = 39", "at(59, 1) = 39",
            "at(59, 2) = 1", "at(60, 0) = NONE", "at(60, 1) = NONE", "at(60, 2) = 0"));
        Run.due("12: the first line alone", Run.with(full, "at(0, 0) = NONE", "at(1, 0) = 0", "at(1, 1) = 0", "at(1, 2) = 1"));
        Run.due("12: lines that are not names are seen, too", "line(BLANK)", "line(TITLE)", "line(PICTURE)", "at(12, 0) = 0",
            "at(12, 1) = 2", "at(12, 2) = 3");
    }

    private static void count() {
        Run.range("13: what, 0 to 11", 0, 11, "BAD_VALUE", "count(#)");
        Run.range("13: what, 0 to 11, of 40 lines", 0, 11, "BAD_VALUE", "count(#)", "40 x name(0, #)");
    }

    private static void countNothing() {
        Run.due("13: nothing there", "count(0) = 0", "count(1) = 0", "count(2) = 0", "count(3) = 0", "count(4) = 0", "count(5) = 0",
            "count(6) = 0", "count(7) = 10", "count(8) = 5", "count(9) = 3", "count(10) = 0", "count(11) = 0");
        Run.due("13: nothing there any more", "name(0, 0)", "cue(0, 1)", "put('t')", "drop(0)", "wipe()", "count(0) = 0",
            "count(1) = 0", "count(2) = 0", "count(3) = 0", "count(4) = 0", "count(5) = 0", "count(6) = 0", "count(10) = 0",
            "3 x undo()", "count(11) = 0");
    }

    private static void countAll() {
        Run.due("13: 40 names with cues", "40 x name(0, #)", "40 x cue(#, 30)", "count(0) = 40", "count(1) = 40", "count(2) = 40",
            "count(3) = 17", "count(5) = 40", "count(11) = 6");
        Run.due("13: 40 logos", "40 x line(PICTURE)", "count(0) = 40", "count(1) = 0", "count(2) = 120", "set(LOGO, 4)",
            "count(2) = 160", "set(LOGO, 1)", "count(2) = 40", "set(SCREEN, 20)", "set(SPEED, 1)", "set(LOGO, 4)", "count(3) = 1800",
            "count(4) = 0", "count(5) = 0");
        Run.due("13: eight groups that are not equal", Run.with(EIGHT_UNEQUAL_GROUPS, "count(4) = 8", "drop(23)", "count(4) = 7",
            "drop(0)", "count(1) = 14", "set(SPEED, 10)", "count(4) = 0"));
        Run.due("13: the settings at their least", "set(SCREEN, 4)", "set(SPEED, 1)", "set(LOGO, 1)", "count(7) = 4", "count(8) = 1",
            "count(9) = 1");
        Run.due("13: the settings at their greatest", "set(SCREEN, 20)", "set(SPEED, 30)", "set(LOGO, 4)", "count(7) = 20",
            "count(8) = 30", "count(9) = 4");
        Run.due("13: the pad when it is full", "7 x put('t,t,t,t,')", "put('t,t') = 59", "count(10) = 59", "put(',') = 60",
            "count(10) = 60", "put(',') = TOO_MANY", "count(10) = 60", "wipe() = 60", "count(10) = 0");
        Run.due("13: at most six changes", "5 x line(BLANK)", "count(11) = 5", "line(BLANK)", "count(11) = 6", "line(BLANK)",
            "count(11) = 6", "undo() = 5", "count(11) = 5");
    }

    private static void countOneOfEach() {
        Run.due("13: names alone are names", "line(TITLE)", "line(PICTURE)", "line(BLANK)", "count(1) = 0", "name(7, 0)",
            "count(1) = 1", "count(0) = 4", "count(2) = 7");
        Run.due("13: a cue counts once", "2 x line(BLANK)", "cue(1, 1)", "count(5) = 1", "cue(1, 30)", "count(5) = 1", "cue(0, 1)",
            "count(5) = 2", "cue(1, 0)", "count(5) = 1", "drop(0)", "count(5) = 0");
        Run.due("13: what is never seen and is no name does not count", "set(SCREEN, 4)", "set(LOGO, 4)", "set(SPEED, 30)",
            "line(PICTURE)", "name(0, 0)", "of(0, 6) = 0", "of(1, 6) = 1", "count(6) = 0");
    }
}
