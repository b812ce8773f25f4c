/** Settings, Lines, Scrolling and Turns of the Terms: what is just at an edge, and what is a tenth of a row beside it. */
public final class ScrollTest {
    public static void main(String[] args) {
        firstSettings();
        heights();
        nothingIsOnTheScreenAtFirst();
        movesBySpeed();
        cueAtTheBottom();
        cueAheadOfTheTick();
        lastLineWithCue();
        cuesATenthApart();
        fortyCues();
        speedWithoutCue();
        seenFromTheBottom();
        seenTillTheTop();
        speedChangesAtAnEdge();
        asHighAsTheScreen();
        missed();
        over();
        spread();
        namesAreNeverMissed();
        turns();
        turnsOfFewAndAll();
        Due.end("ScrollTest");
    }

    private static void firstSettings() {
        Run.due("Settings: SCREEN (4 to 20; 10)", "count(7) = 10", "set(SCREEN, 4) = 10", "set(SCREEN, 20) = 4",
            "set(SCREEN, 3) = BAD_VALUE", "set(SCREEN, 21) = BAD_VALUE", "count(7) = 20");
        Run.due("Settings: SPEED (1 to 30; 5)", "count(8) = 5", "set(SPEED, 1) = 5", "set(SPEED, 30) = 1",
            "set(SPEED, 0) = BAD_VALUE", "set(SPEED, 31) = BAD_VALUE", "count(8) = 30");
        Run.due("Settings: LOGO (1 to 4; 3)", "count(9) = 3", "set(LOGO, 1) = 3", "set(LOGO, 4) = 1",
            "set(LOGO, 0) = BAD_VALUE", "set(LOGO, 5) = BAD_VALUE", "count(9) = 4");
    }

    private static void heights() {
        String[] all = {"name(0, 0)", "line(BLANK)", "line(TITLE)", "line(PICTURE)", "name(0, 0)"};
        Run.due("Lines: a name and a blank are one row high, a title two, a logo LOGO", Run.with(all, "of(0, 5) = 1",
            "of(1, 5) = 1", "of(2, 5) = 2", "of(3, 5) = 3", "set(LOGO, 1)", "of(3, 5) = 1", "of(2, 5) = 2", "set(LOGO, 4)",
            "of(3, 5) = 4", "of(0, 5) = 1", "of(1, 5) = 1", "of(2, 5) = 2"));
        Run.due("Scrolling: one below the other, without gaps", Run.with(all, "of(0, 4) = 0", "of(1, 4) = 1", "of(2, 4) = 2",
            "of(3, 4) = 4", "of(4, 4) = 7", "count(2) = 8", "set(LOGO, 1)", "of(3, 4) = 4", "of(4, 4) = 5", "count(2) = 6",
            "set(LOGO, 4)", "of(4, 4) = 8", "count(2) = 9"));
    }

    private static void nothingIsOnTheScreenAtFirst() {
        Run.due("Scrolling: at the time 0 nothing is on the screen", "set(SPEED, 30)", "40 x name(0, #)", "at(0, 0) = NONE",
            "at(0, 1) = NONE", "at(0, 2) = 0", "at(0, 4) = 0", "at(1, 0) = 0", "at(1, 1) = 2", "at(1, 2) = 3");
    }

    private static void movesBySpeed() {
        Run.due("Scrolling: in each tick all moves up by the speed", "name(0, 0)", "at(1, 4) = 5", "at(2, 4) = 10",
            "set(SPEED, 1)", "at(1, 4) = 1", "at(2, 4) = 2", "set(SPEED, 30)", "at(1, 4) = 30", "at(2, 4) = 60");
    }

    private static void cueAtTheBottom() {
        Run.due("Scrolling: a cue whose line's top is at the bottom of the screen at the time 0", "name(0, 0)", "cue(0, 30)",
            "at(0, 3) = 30", "at(1, 4) = 30");
        Run.due("Scrolling: a cue whose line's top is just at the bottom", "2 x name(0, #)", "cue(1, 2)", "set(SPEED, 10)",
            "at(0, 3) = 10", "at(1, 4) = 10", "at(1, 3) = 2", "at(2, 4) = 12");
        Run.due("Scrolling: a cue whose line's top is a tenth below it", "2 x name(0, #)", "cue(1, 2)", "set(SPEED, 9)",
            "at(1, 4) = 9", "at(1, 3) = 9", "at(2, 4) = 18", "at(2, 3) = 2");
        Run.due("Scrolling: a cue whose line's top is a tenth above it", "2 x name(0, #)", "cue(1, 2)", "set(SPEED, 11)",
            "at(0, 3) = 11", "at(1, 4) = 11", "at(1, 3) = 2");
    }

    private static void cueAheadOfTheTick() {
        Run.due("Scrolling: at the time t, ahead of the tick", "2 x name(0, #)", "cue(1, 1)", "set(SPEED, 30)", "at(0, 3) = 30",
            "at(1, 4) = 30", "at(1, 3) = 1", "at(2, 4) = 31");
    }

    private static void lastLineWithCue() {
        Run.due("Scrolling: the cue of the last line whose top is there", "3 x name(0, #)", "cue(0, 3)", "cue(1, 7)",
            "cue(2, 2)", "set(SPEED, 20)", "at(0, 3) = 3", "at(3, 4) = 9", "at(3, 3) = 3", "at(4, 4) = 12", "at(4, 3) = 7",
            "at(5, 4) = 19", "at(5, 3) = 7", "at(6, 4) = 26", "at(6, 3) = 2", "at(7, 4) = 28");
        Run.due("Scrolling: the last one of two that come in one tick", "3 x name(0, #)", "cue(1, 7)", "cue(2, 2)",
            "set(SPEED, 20)", "at(1, 4) = 20", "at(1, 3) = 2");
        Run.due("Scrolling: the last one that has a cue", "3 x name(0, #)", "cue(1, 7)", "set(SPEED, 30)", "at(1, 3) = 7",
            "at(9, 3) = 7");
        Run.due("Scrolling: from the top down, as the lines stand then", "3 x name(0, #)", "cue(1, 7)", "cue(2, 2)",
            "move(2, 0)", "at(0, 3) = 2", "at(5, 3) = 2", "at(10, 4) = 20", "at(10, 3) = 7", "at(99, 3) = 7");
    }

    private static void cuesATenthApart() {
        Run.due("Scrolling: the next cue is still a tenth below", "3 x name(0, #)", "cue(1, 7)", "cue(2, 2)", "set(SPEED, 19)",
            "at(1, 4) = 19", "at(1, 3) = 7", "at(2, 4) = 26", "at(2, 3) = 2", "at(3, 4) = 28");
    }

    private static void fortyCues() {
        Run.due("Scrolling: 40 cues that come one by one", "40 x name(0, #)", "40 x cue(#, 10)", "cue(39, 1)", "at(38, 3) = 10",
            "at(39, 4) = 390", "at(39, 3) = 1", "at(40, 4) = 391", "at(9999, 4) = 10350", "count(3) = 149", "of(39, 7) = 49",
            "of(39, 8) = 139", "blame(0) = 39", "blame(1) = 0");
    }

    private static void speedWithoutCue() {
        Run.due("Scrolling: SPEED, if there is no such line", "3 x name(0, #)", "cue(2, 9)", "at(0, 3) = 5", "at(3, 4) = 15",
            "at(3, 3) = 5", "at(4, 4) = 20", "at(4, 3) = 9", "cue(2, 0)", "at(4, 3) = 5", "at(9999, 3) = 5");
    }

    private static void seenFromTheBottom() {
        Run.due("Scrolling: seen with its bottom just at the bottom", "name(0, 0)", "set(SPEED, 10)", "of(0, 7) = 1",
            "at(1, 2) = 1", "at(1, 0) = 0", "at(1, 1) = 0");
        Run.due("Scrolling: not seen with its bottom a tenth below", "name(0, 0)", "set(SPEED, 9)", "of(0, 7) = 2",
            "at(1, 2) = 0", "at(1, 0) = NONE", "at(1, 1) = NONE", "at(2, 2) = 1");
        Run.due("Scrolling: seen with its bottom a tenth above", "name(0, 0)", "set(SPEED, 11)", "of(0, 7) = 1", "at(1, 2) = 1");
        Run.due("Scrolling: all of it on the screen", "line(TITLE)", "line(PICTURE)", "set(SPEED, 1)", "of(0, 7) = 20",
            "at(19, 2) = 0", "at(20, 2) = 1", "of(1, 7) = 50", "at(49, 1) = 0", "at(50, 1) = 1");
    }

    private static void seenTillTheTop() {
        Run.due("Scrolling: seen with its top just at the top", "name(0, 0)", "set(SPEED, 10)", "of(0, 8) = 10", "of(0, 6) = 10",
            "at(10, 2) = 1", "at(11, 2) = 0");
        Run.due("Scrolling: not seen with its top a tenth above", "line(TITLE)", "set(SCREEN, 6)", "set(SPEED, 30)",
            "of(0, 8) = 2", "set(SPEED, 29)", "of(0, 8) = 2", "set(SPEED, 15)", "of(0, 8) = 4", "cue(0, 1)", "of(0, 8) = 60",
            "of(0, 6) = 41", "at(60, 2) = 1", "at(61, 2) = 0", "at(61, 0) = NONE", "at(61, 1) = NONE");
        Run.due("Scrolling: the ticks for which it is seen", "name(0, 0)", "set(SPEED, 1)", "of(0, 6) = 91", "of(0, 7) = 10",
            "of(0, 8) = 100", "set(SPEED, 9)", "of(0, 6) = 10", "of(0, 7) = 2", "of(0, 8) = 11", "set(SPEED, 11)", "of(0, 6) = 9",
            "of(0, 7) = 1", "of(0, 8) = 9", "set(SPEED, 30)", "of(0, 6) = 3", "of(0, 7) = 1", "of(0, 8) = 3");
    }

    private static void speedChangesAtAnEdge() {
        Run.due("Scrolling: the speed changes when a line's top is just at the top", "11 x name(0, #)", "set(SPEED, 10)", "cue(10, 3)",
            "at(10, 4) = 100", "at(10, 3) = 3", "of(0, 6) = 10", "of(0, 8) = 10", "at(10, 0) = 0", "at(11, 0) = 1", "of(1, 6) = 12",
            "of(1, 8) = 13", "count(3) = 47");
        Run.due("Scrolling: the speed changes when a line's bottom is just at the bottom", "2 x name(0, #)", "set(SPEED, 10)",
            "cue(1, 3)", "of(0, 7) = 1", "at(1, 1) = 0", "at(2, 4) = 13", "of(1, 7) = 5", "at(4, 1) = 0", "at(5, 1) = 1");
    }

    private static void asHighAsTheScreen() {
        String[] logo = {"line(PICTURE)", "set(LOGO, 4)", "set(SCREEN, 4)"};
        Run.due("Scrolling: a line as high as the screen is seen at one height", Run.with(logo, "set(SPEED, 10)", "of(0, 6) = 1",
            "of(0, 7) = 4", "of(0, 8) = 4", "at(4, 2) = 1", "at(3, 2) = 0", "at(5, 2) = 0", "set(SPEED, 1)", "of(0, 6) = 1",
            "of(0, 7) = 40", "of(0, 8) = 40"));
        Run.due("Scrolling: a line as high as the screen, missed", Run.with(logo, "set(SPEED, 9)", "of(0, 6) = 0",
            "of(0, 7) = NONE", "of(0, 8) = NONE", "at(4, 2) = 0", "at(5, 2) = 0", "at(4, 0) = NONE", "at(5, 1) = NONE"));
        Run.due("Scrolling: a screen one row higher", Run.with(logo, "set(SCREEN, 5)", "set(SPEED, 10)", "of(0, 6) = 2",
            "of(0, 7) = 4", "of(0, 8) = 5"));
    }

    private static void missed() {
        Run.due("Scrolling: a title that a tick carries past the screen", "name(0, 0)", "line(TITLE)", "name(0, 1)",
            "set(SCREEN, 4)", "set(SPEED, 21)", "cue(1, 30)", "at(1, 4) = 21", "at(2, 4) = 51", "of(1, 6) = 0", "of(1, 7) = NONE",
            "of(1, 8) = NONE", "of(0, 6) = 1", "of(2, 6) = 1", "at(1, 2) = 1", "at(2, 0) = 2", "at(2, 1) = 2", "at(2, 2) = 1");
    }

    private static void over() {
        Run.due("Scrolling: over when the bottom of the last line is at the top", "name(0, 0)", "set(SPEED, 10)", "count(3) = 11",
            "set(SPEED, 11)", "count(3) = 10", "set(SPEED, 1)", "count(3) = 110");
        Run.due("Scrolling: or above it", "name(0, 0)", "set(SPEED, 12)", "count(3) = 10", "set(SPEED, 30)", "count(3) = 4",
            "set(SPEED, 9)", "count(3) = 13");
        Run.due("Scrolling: 0 without lines", "count(3) = 0", "line(BLANK)", "count(3) = 22", "drop(0)", "count(3) = 0");
        Run.due("Scrolling: the last line's cue counts till the end", "2 x name(0, #)", "cue(1, 30)", "count(3) = 6", "cue(1, 1)",
            "count(3) = 112");
        Run.due("Scrolling: the most ticks", "40 x line(PICTURE)", "set(LOGO, 4)", "set(SCREEN, 20)", "set(SPEED, 1)",
            "count(2) = 160", "count(3) = 1800", "of(39, 8) = 1760", "at(1760, 0) = 39", "at(1761, 0) = NONE");
        Run.due("Scrolling: the fewest ticks", "line(BLANK)", "set(SCREEN, 4)", "set(SPEED, 30)", "count(3) = 2",
            "set(SPEED, 25)", "count(3) = 2", "set(SPEED, 24)", "count(3) = 3");
    }

    private static void spread() {
        Run.due("Scrolling: a spread is 0 with fewer than two names", "set(SPEED, 3)", "3 x name(0, #)", "group(1, 1) = 0",
            "name(1, 5)", "group(1, 1) = 0", "group(0, 1) = 1");
        Run.due("Scrolling: the one seen longest less the one seen shortest", "set(SPEED, 3)", "3 x name(0, #)", "of(0, 6) = 30",
            "of(1, 6) = 30", "of(2, 6) = 31", "group(0, 1) = 1", "drop(2)", "group(0, 1) = 0", "drop(1)", "group(0, 1) = 0");
        Run.due("Scrolling: neither the first name nor the last one has to be one of them", "set(SPEED, 3)", "name(0, 0)",
            "name(4, 1)", "name(0, 2)", "name(0, 3)", "name(4, 4)", "of(2, 6) = 31", "of(3, 6) = 30", "group(0, 1) = 1",
            "group(4, 1) = 0", "count(4) = 1");
        Run.due("Scrolling: titles, logos and blanks do not count", "set(SPEED, 3)", "name(0, 0)", "line(PICTURE)", "line(TITLE)",
            "line(BLANK)", "group(0, 1) = 0", "group(0, 0) = 1", "count(4) = 0");
        Run.due("Scrolling: a group is equal if its spread is 0", "set(SPEED, 3)", "3 x name(0, #)", "3 x name(7, #)",
            "count(4) = 2", "set(SPEED, 10)", "count(4) = 0");
    }

    /** All ranges at their ends: the lowest screen and the fastest ticks, and still 31 tenths show a name once at least. */
    private static void namesAreNeverMissed() {
        Run.due("Scrolling: no name is missed", "set(SCREEN, 4)", "set(SPEED, 30)", "40 x name(0, #)", "cue(0, 1)", "cue(1, 30)",
            "count(6) = 0", "group(0, 2) = 1", "speedFor(1) = 30", "speedFor(2) = 20");
    }

    private static void turns() {
        String[] names = {"name(3, 10)", "line(TITLE)", "name(3, 20)", "name(4, 99)", "name(3, 30)", "cue(0, 8)", "cue(4, 9)"};
        Run.due("Turns: the first number comes to the last place, each other one ahead", Run.with(names, "turn(3, 1) = 20",
            "of(0, 2) = 20", "of(2, 2) = 30", "of(4, 2) = 10", "of(3, 2) = 99", "of(1, 2) = NONE"));
        Run.due("Turns: lines and cues stay", Run.with(names, "turn(3, 1)", "of(0, 0) = NAME", "of(0, 1) = 3", "of(0, 3) = 8",
            "of(1, 0) = TITLE", "of(1, 3) = 0", "of(2, 3) = 0", "of(3, 1) = 4", "of(4, 1) = 3", "of(4, 3) = 9"));
        Run.due("Turns: as often as there are names", Run.with(names, "turn(3, 3) = 10", "of(0, 2) = 10", "of(2, 2) = 20",
            "of(4, 2) = 30", "turn(3, 4) = 20", "of(2, 2) = 30", "of(4, 2) = 10"));
    }

    private static void turnsOfFewAndAll() {
        Run.due("Turns: one name", "line(BLANK)", "name(7, 999)", "turn(7, 1) = 999", "turn(7, 40) = 999", "of(1, 2) = 999");
        Run.due("Turns: two names", "name(0, 0)", "name(0, 999)", "turn(0, 1) = 999", "of(1, 2) = 0", "turn(0, 40) = 999",
            "turn(0, 39) = 0", "of(1, 2) = 999");
        Run.due("Turns: 40 names", "40 x name(0, #)", "turn(0, 40) = 0", "of(39, 2) = 39", "turn(0, 39) = 39", "of(1, 2) = 0",
            "of(39, 2) = 38", "turn(0, 1) = 0", "of(39, 2) = 39");
    }
}
