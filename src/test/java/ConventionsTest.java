/** The CONVENTIONS: which error comes first, NONE, and numbers from 0. That a refused call changes nothing, Run looks at itself. */
public final class ConventionsTest {
    public static void main(String[] args) {
        firstErrorOfChanges();
        firstErrorOfAnswers();
        errorsAheadOfNone();
        refusedOnFullHistory();
        numberedFromZero();
        Due.end("ConventionsTest");
    }

    private static void firstErrorOfChanges() {
        Run.due("3: BAD_VALUE, then TOO_MANY", "40 x line(BLANK)",
            "name(8, 0) = BAD_VALUE", "name(-1, 0) = BAD_VALUE", "name(0, 1000) = BAD_VALUE", "name(0, -1) = BAD_VALUE",
            "name(0, 0) = TOO_MANY");
        Run.due("4: BAD_VALUE, then TOO_MANY", "40 x name(0, 0)",
            "line(NAME) = BAD_VALUE", "line(4) = BAD_VALUE", "line(TITLE) = TOO_MANY", "line(BLANK) = TOO_MANY");
        Run.due("5: NO_SUCH, then BAD_VALUE", "cue(0, 31) = NO_SUCH", "cue(0, -1) = NO_SUCH", "cue(-1, 31) = NO_SUCH",
            "line(TITLE)", "cue(1, 31) = NO_SUCH", "cue(1, -1) = NO_SUCH", "cue(0, 31) = BAD_VALUE", "cue(0, -1) = BAD_VALUE");
        Run.due("8: BAD_VALUE, then NOT_POSSIBLE", "name(0, 1)", "turn(1, 0) = BAD_VALUE", "turn(1, 41) = BAD_VALUE",
            "turn(8, 1) = BAD_VALUE", "turn(-1, 1) = BAD_VALUE", "turn(1, 1) = NOT_POSSIBLE", "turn(1, 40) = NOT_POSSIBLE");
        Run.due("9: BAD_TEXT, then TOO_MANY", "40 x line(BLANK)", "read() = BAD_TEXT", "put('t,') = 2", "read() = BAD_TEXT",
            "put('t') = 3", "read() = TOO_MANY", "put('t') = 4", "read() = BAD_TEXT");
        Run.due("18: BAD_VALUE, then TOO_MANY", "7 x put('t,t,t,t,')", "put('t,t,') = 60", "put(0) = BAD_VALUE",
            "put(32) = BAD_VALUE", "put(127) = BAD_VALUE", "put(29696) = BAD_VALUE", "put(33) = TOO_MANY", "put(126) = TOO_MANY");
        Run.due("23: BAD_VALUE, then NOT_POSSIBLE", "restore(2) = BAD_VALUE", "restore(-1) = BAD_VALUE",
            "restore(0) = NOT_POSSIBLE", "restore(1) = NOT_POSSIBLE");
    }

    private static void firstErrorOfAnswers() {
        Run.due("10: NO_SUCH, then BAD_VALUE", "of(0, 9) = NO_SUCH", "of(0, -1) = NO_SUCH", "line(TITLE)", "of(1, 9) = NO_SUCH",
            "of(-1, -1) = NO_SUCH", "of(0, 9) = BAD_VALUE", "of(0, -1) = BAD_VALUE");
        Run.due("16: NO_SUCH, then BAD_VALUE", "seenIf(0, 0) = NO_SUCH", "seenIf(0, 31) = NO_SUCH", "line(TITLE)",
            "seenIf(1, 31) = NO_SUCH", "seenIf(-1, 0) = NO_SUCH", "seenIf(0, 0) = BAD_VALUE", "seenIf(0, 31) = BAD_VALUE");
        Run.due("17: NO_SUCH, then BAD_VALUE", "bestCue(0, 8, 0) = NO_SUCH", "bestCue(0, 0, 2) = NO_SUCH", "line(TITLE)",
            "bestCue(1, 8, 2) = NO_SUCH", "bestCue(-1, -1, -1) = NO_SUCH", "bestCue(0, 8, 0) = BAD_VALUE",
            "bestCue(0, 0, 2) = BAD_VALUE");
    }

    private static void errorsAheadOfNone() {
        Run.due("NONE only if no error applies: of", "line(BLANK)", "of(0, 1) = NONE", "of(0, 2) = NONE", "of(1, 1) = NO_SUCH",
            "of(0, 9) = BAD_VALUE");
        Run.due("NONE only if no error applies: group", "group(0, 2) = NONE", "group(0, 3) = NONE", "group(0, 4) = NONE",
            "group(0, 5) = BAD_VALUE", "group(0, -1) = BAD_VALUE", "group(8, 2) = BAD_VALUE", "group(-1, 4) = BAD_VALUE");
        Run.due("NONE only if no error applies: at", "at(0, 0) = NONE", "at(9999, 1) = NONE", "at(10000, 0) = BAD_VALUE",
            "at(-1, 1) = BAD_VALUE", "at(0, 5) = BAD_VALUE", "at(0, -1) = BAD_VALUE");
        Run.due("NONE only if no error applies: blame", "blame(0) = NONE", "blame(1) = NONE", "blame(2) = BAD_VALUE",
            "blame(-1) = BAD_VALUE", "name(0, 0)", "blame(0) = NONE", "blame(1) = NONE", "blame(2) = BAD_VALUE");
        Run.due("NONE only if no error applies: speedFor", "name(0, 0)", "speedFor(92) = NONE", "speedFor(200) = NONE",
            "speedFor(201) = BAD_VALUE", "speedFor(0) = BAD_VALUE");
    }

    /** Were one of these recorded, the oldest state would be dropped; were one to write, the lines would tell. */
    private static void refusedOnFullHistory() {
        String[] some = {"name(0, 1)", "line(TITLE)", "save(0)", "name(0, 2)", "cue(1, 20)", "line(PICTURE)", "save(1)",
            "set(SPEED, 7)", "name(7, 999)", "write('n0123@30,t,')", "count(11) = 6"};
        String[] refused = {"set(3, 5) = BAD_VALUE", "set(-1, 5) = BAD_VALUE", "set(SCREEN, 3) = BAD_VALUE",
            "set(SCREEN, 21) = BAD_VALUE", "set(SPEED, 0) = BAD_VALUE", "set(SPEED, 31) = BAD_VALUE", "set(LOGO, 0) = BAD_VALUE",
            "set(LOGO, 5) = BAD_VALUE", "name(8, 0) = BAD_VALUE", "name(0, 1000) = BAD_VALUE", "line(NAME) = BAD_VALUE",
            "line(4) = BAD_VALUE", "cue(5, 1) = NO_SUCH", "cue(-1, 1) = NO_SUCH", "cue(0, 31) = BAD_VALUE",
            "cue(0, -1) = BAD_VALUE", "move(5, 0) = NO_SUCH", "move(0, 5) = NO_SUCH", "move(-1, 0) = NO_SUCH",
            "move(0, -1) = NO_SUCH", "drop(5) = NO_SUCH", "drop(-1) = NO_SUCH", "turn(8, 1) = BAD_VALUE",
            "turn(0, 0) = BAD_VALUE", "turn(0, 41) = BAD_VALUE", "turn(1, 1) = NOT_POSSIBLE", "read() = BAD_TEXT",
            "put(0) = BAD_VALUE", "put(32) = BAD_VALUE", "put(127) = BAD_VALUE", "save(2) = BAD_VALUE", "save(-1) = BAD_VALUE",
            "restore(2) = BAD_VALUE", "restore(-1) = BAD_VALUE"};
        for (String call : refused) {
            Run.due("a call that returns an error changes nothing", Run.with(some, call));
        }
        Run.due("a call that returns an error changes nothing", Run.with(some, "put('b') = 12", "read() = 8", "5 x undo()",
            "undo() = 0", "undo() = NOT_POSSIBLE", "restore(0) = 2"));
        Run.due("a call that returns an error changes nothing", "line(TITLE)", "cue(0, 4)", "restore(0) = NOT_POSSIBLE",
            "restore(1) = NOT_POSSIBLE", "5 x write('b,b,b,b,b,')", "put('b,b,b,b,') = 58", "put('b,b') = TOO_MANY",
            "put('b') = 59", "read() = 31", "write('b,b,b,b,b,b,b,b,b,b')", "read() = TOO_MANY");
    }

    private static void numberedFromZero() {
        Run.due("everything is numbered from 0: lines", "name(5, 7) = 0", "line(TITLE) = 1", "of(0, 0) = NAME", "of(1, 0) = TITLE",
            "cue(0, 9) = 0", "blame(0) = 0", "group(5, 3) = 0", "at(5, 0) = 0", "at(5, 1) = 1");
        Run.due("everything is numbered from 0: characters", "put('xt') = 2", "fault() = 0", "wipe() = 2", "put('tx') = 2",
            "fault() = 1");
    }
}
