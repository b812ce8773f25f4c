/** Promises 1 to 9 at their edges: the last value that is allowed and the first that is not, nothing there and all full. */
public final class ChangesEdgesTest {
    private static final String[] LINES_40 = {"10 x line(BLANK)", "10 x line(TITLE)", "10 x line(PICTURE)", "10 x name(6, #)"};

    public static void main(String[] args) {
        newObject();
        set();
        name();
        line();
        fortyLines();
        cue();
        move();
        movesBetween();
        moveTells();
        drop();
        turn();
        read();
        readEmptiesThePad();
        readUpToForty();
        Due.end("ChangesEdgesTest");
    }

    private static void newObject() {
        Run.due("1: credits without lines", "count(0) = 0", "count(1) = 0", "count(2) = 0", "count(3) = 0", "count(4) = 0",
            "count(5) = 0", "count(6) = 0", "count(10) = 0", "count(11) = 0", "of(0, 0) = NO_SUCH", "fault() = 0",
            "undo() = NOT_POSSIBLE", "restore(0) = NOT_POSSIBLE", "restore(1) = NOT_POSSIBLE", "wipe() = 0");
        CreditScroll one = new CreditScroll();
        CreditScroll other = new CreditScroll();
        one.name(3, 33);
        one.set(CreditScroll.SPEED, 30);
        one.put('t');
        one.save(0);
        Due.is("1: another object has no lines", other.count(0), 0);
        Due.is("1: another object has its own settings", other.count(8), 5);
        Due.is("1: another object has its own pad", other.count(10), 0);
        Due.is("1: another object has its own history", other.count(11), 0);
        Due.is("1: another object has its own slots", other.restore(0), CreditScroll.NOT_POSSIBLE);
        Due.is("1: a third one starts anew", new CreditScroll().count(8), 5);
    }

    private static void set() {
        Run.range("2: BAD_VALUE if there is no such setting", 0, 2, "BAD_VALUE", "set(#, 4)");
        Run.range("2: SCREEN out of its range", 4, 20, "BAD_VALUE", "set(SCREEN, #)");
        Run.range("2: SPEED out of its range", 1, 30, "BAD_VALUE", "set(SPEED, #)");
        Run.range("2: LOGO out of its range", 1, 4, "BAD_VALUE", "set(LOGO, #)");
        Run.due("2: returns the previous value", "set(SCREEN, 4) = 10", "set(SCREEN, 20) = 4", "set(SCREEN, 20) = 20",
            "set(SPEED, 30) = 5", "set(SPEED, 1) = 30", "set(LOGO, 4) = 3", "set(LOGO, 1) = 4", "set(SCREEN, 10) = 20");
        Run.due("2: the same value is a change, too", "set(SPEED, 5) = 5", "count(11) = 1", "undo() = 0", "count(8) = 5");
    }

    private static void name() {
        Run.range("3: group, 0 to 7", 0, 7, "BAD_VALUE", "name(#, 0)");
        Run.range("3: number, 0 to 999", 0, 999, "BAD_VALUE", "name(0, #)");
        Run.due("3: the least and the greatest", "name(0, 0) = 0", "name(7, 999) = 1", "of(0, 1) = 0", "of(0, 2) = 0",
            "of(1, 1) = 7", "of(1, 2) = 999", "of(0, 0) = NAME", "of(1, 0) = NAME", "of(1, 3) = 0");
        Run.due("3: the same name again", "name(2, 5) = 0", "name(2, 5) = 1", "group(2, 0) = 2");
        Run.due("3: both out of range", "name(8, 1000) = BAD_VALUE", "name(-1, -1) = BAD_VALUE");
    }

    private static void line() {
        Run.range("4: kind, TITLE to BLANK", 1, 3, "BAD_VALUE", "line(#)");
        Run.due("4: the least and the greatest", "line(TITLE) = 0", "line(BLANK) = 1", "of(0, 0) = TITLE", "of(1, 0) = BLANK",
            "of(0, 1) = NONE", "of(0, 2) = NONE", "of(0, 3) = 0", "of(1, 1) = NONE", "of(1, 2) = NONE", "of(1, 3) = 0");
        Run.due("4: a name is not added so", "line(NAME) = BAD_VALUE", "count(0) = 0");
    }

    private static void fortyLines() {
        Run.due("3: TOO_MANY if there are 40 lines", "39 x line(BLANK)", "name(0, 5) = 39", "name(0, 6) = TOO_MANY", "count(0) = 40",
            "of(39, 2) = 5", "of(40, 0) = NO_SUCH");
        Run.due("4: TOO_MANY if there are 40 lines", "39 x name(0, #)", "line(PICTURE) = 39", "line(PICTURE) = TOO_MANY",
            "count(0) = 40", "of(39, 0) = PICTURE", "of(40, 0) = NO_SUCH");
        Run.due("3, 4: with one line less there is place again", Run.with(LINES_40, "name(0, 0) = TOO_MANY", "drop(0) = 39",
            "name(0, 0) = 39", "line(TITLE) = TOO_MANY", "drop(39) = 39", "line(TITLE) = 39", "undo() = 5", "name(1, 1) = 39"));
    }

    private static void cue() {
        Run.range("5: speed, 1 to 30, or 0", 0, 30, "BAD_VALUE", "cue(0, #)", "line(BLANK)");
        Run.range("5: NO_SUCH if there is no such line", 0, 1, "NO_SUCH", "cue(#, 1)", "2 x line(BLANK)");
        Run.range("5: NO_SUCH if there is no such line of 40", 0, 39, "NO_SUCH", "cue(#, 0)", LINES_40);
        Run.due("5: NO_SUCH without lines", "cue(0, 1) = NO_SUCH", "cue(-1, 1) = NO_SUCH");
        Run.due("5: returns the speed so far, 0 without one", "line(BLANK)", "cue(0, 1) = 0", "cue(0, 30) = 1", "cue(0, 30) = 30",
            "cue(0, 0) = 30", "cue(0, 0) = 0", "of(0, 3) = 0", "count(5) = 0");
        Run.due("5: 0 takes it away", "2 x name(0, #)", "cue(1, 30)", "count(3) = 6", "cue(1, 0) = 30", "count(3) = 24",
            "at(9, 3) = 5");
    }

    private static void move() {
        Run.range("6: NO_SUCH if there is no such line", 0, 2, "NO_SUCH", "move(#, 1)", "3 x name(0, #)");
        Run.range("6: NO_SUCH if there is no such place", 0, 2, "NO_SUCH", "move(1, #)", "3 x name(0, #)");
        Run.range("6: NO_SUCH if there is no such line of 40", 0, 39, "NO_SUCH", "move(#, 39)", LINES_40);
        Run.range("6: NO_SUCH if there is no such place of 40", 0, 39, "NO_SUCH", "move(39, #)", LINES_40);
        Run.due("6: NO_SUCH without lines", "move(0, 0) = NO_SUCH");
        Run.due("6: the only line", "name(0, 5)", "cue(0, 2)", "move(0, 0) = 10000", "of(0, 2) = 5", "of(0, 3) = 2",
            "move(0, 1) = NO_SUCH", "move(1, 0) = NO_SUCH");
        Run.due("6: to its own place, that is a change, too", "3 x name(0, #)", "move(1, 1) = 10000", "count(11) = 4",
            "of(1, 2) = 1", "undo() = 3", "of(1, 2) = 1");
    }

    private static void movesBetween() {
        Run.due("6: down, those between move by one", "5 x name(0, #)", "cue(1, 9)", "move(1, 3)", "of(0, 2) = 0", "of(1, 2) = 2",
            "of(2, 2) = 3", "of(3, 2) = 1", "of(4, 2) = 4", "of(3, 3) = 9", "of(1, 3) = 0");
        Run.due("6: up, those between move by one", "5 x name(0, #)", "cue(3, 9)", "move(3, 1)", "of(0, 2) = 0", "of(1, 2) = 3",
            "of(2, 2) = 1", "of(3, 2) = 2", "of(4, 2) = 4", "of(1, 3) = 9", "of(3, 3) = 0");
        Run.due("6: the first to the end", "40 x name(0, #)", "cue(0, 9)", "move(0, 39)", "of(0, 2) = 1", "of(38, 2) = 39",
            "of(39, 2) = 0", "of(39, 3) = 9", "of(0, 3) = 0", "count(0) = 40");
        Run.due("6: the last to the top", "40 x name(0, #)", "cue(39, 9)", "move(39, 0)", "of(0, 2) = 39", "of(1, 2) = 0",
            "of(39, 2) = 38", "of(0, 3) = 9", "of(39, 3) = 0", "count(0) = 40");
        Run.due("6: by one", "3 x name(0, #)", "move(0, 1)", "of(0, 2) = 1", "of(1, 2) = 0", "of(2, 2) = 2", "move(2, 1)",
            "of(0, 2) = 1", "of(1, 2) = 2", "of(2, 2) = 0");
        Run.due("6: a line of every kind", "name(5, 55)", "line(TITLE)", "line(PICTURE)", "line(BLANK)", "move(0, 3)",
            "of(0, 0) = TITLE", "of(0, 1) = NONE", "of(0, 2) = NONE", "of(1, 0) = PICTURE", "of(2, 0) = BLANK", "of(3, 0) = NAME",
            "of(3, 1) = 5", "of(3, 2) = 55", "of(0, 5) = 2", "of(1, 4) = 2", "of(2, 4) = 5", "of(3, 4) = 6");
    }

    private static void moveTells() {
        Run.due("6: 10000 if it takes as long", "2 x name(0, #)", "move(0, 1) = 10000", "move(1, 0) = 10000");
        Run.due("6: more if it is longer", "2 x name(0, #)", "cue(0, 30)", "count(3) = 4", "move(0, 1) = 10002", "count(3) = 6");
        Run.due("6: less than 10000 if it is shorter", "2 x name(0, #)", "cue(1, 30)", "count(3) = 6", "move(1, 0) = 9998",
            "count(3) = 4");
        Run.due("6: the greatest and the least", "40 x line(PICTURE)", "set(LOGO, 4)", "set(SCREEN, 20)", "set(SPEED, 1)",
            "cue(0, 30)", "count(3) = 60", "move(0, 39) = 11508", "count(3) = 1568", "move(39, 0) = 8492", "count(3) = 60");
    }

    private static void drop() {
        Run.range("7: NO_SUCH if there is no such line", 0, 2, "NO_SUCH", "drop(#)", "3 x name(0, #)");
        Run.range("7: NO_SUCH if there is no such line of 40", 0, 39, "NO_SUCH", "drop(#)", LINES_40);
        Run.due("7: NO_SUCH without lines", "drop(0) = NO_SUCH", "line(BLANK)", "drop(0) = 0", "drop(0) = NO_SUCH",
            "drop(-1) = NO_SUCH");
        Run.due("7: the first one", "3 x name(0, #)", "cue(1, 9)", "drop(0) = 2", "of(0, 2) = 1", "of(0, 3) = 9", "of(1, 2) = 2",
            "of(2, 2) = NO_SUCH");
        Run.due("7: the last one", "3 x name(0, #)", "cue(2, 9)", "drop(2) = 2", "of(0, 2) = 0", "of(1, 2) = 1", "count(5) = 0",
            "of(2, 2) = NO_SUCH");
        Run.due("7: one of 40", "40 x name(0, #)", "drop(39) = 39", "drop(0) = 38", "of(0, 2) = 1", "of(37, 2) = 38",
            "drop(38) = NO_SUCH", "drop(37) = 37");
        Run.due("7: what is added then has no cue of the line that went", "line(BLANK)", "cue(0, 30)", "drop(0)", "name(1, 2) = 0",
            "of(0, 3) = 0", "of(0, 1) = 1", "drop(0)", "line(TITLE) = 0", "of(0, 1) = NONE", "of(0, 2) = NONE");
    }

    private static void turn() {
        String[] names = {"8 x name(#, #)"};
        Run.range("8: BAD_VALUE if there is no such group", 0, 7, "BAD_VALUE", "turn(#, 1)", names);
        Run.range("8: times, 1 to 40", 1, 40, "BAD_VALUE", "turn(0, #)", names);
        for (int group = 0; group < 8; group++) {
            String own = "turn(" + group + ", ";
            Run.due("8: NOT_POSSIBLE if the group has no names", "name(" + (group + 1) % 8 + ", 1)", "line(TITLE)", "line(PICTURE)",
                "line(BLANK)", own + "1) = NOT_POSSIBLE", own + "40) = NOT_POSSIBLE", "name(" + group + ", 2)", own + "1) = 2",
                "drop(4)", own + "1) = NOT_POSSIBLE");
        }
        Run.due("8: NOT_POSSIBLE without lines", "turn(0, 1) = NOT_POSSIBLE", "turn(7, 40) = NOT_POSSIBLE");
        Run.due("8: returns the number of the name that is first then", "3 x name(2, #)", "turn(2, 1) = 1", "turn(2, 1) = 2",
            "turn(2, 1) = 0", "turn(2, 2) = 2", "turn(2, 40) = 0", "turn(2, 39) = 0");
        Run.due("8: one name, that is a change, too", "name(2, 7)", "turn(2, 1) = 7", "count(11) = 2", "undo() = 1");
    }

    private static void read() {
        Run.due("9: BAD_TEXT if the pad is empty", "read() = BAD_TEXT", "put('t')", "wipe()", "read() = BAD_TEXT");
        Run.due("9: BAD_TEXT if the text ends too early", "put('n')", "read() = BAD_TEXT", "put('7')", "read() = BAD_TEXT",
            "put('0@')", "read() = BAD_TEXT", "put('9,')", "read() = BAD_TEXT", "put('l')", "read() = 2", "of(0, 1) = 7",
            "of(0, 2) = 0", "of(0, 3) = 9", "of(1, 0) = PICTURE");
        Run.due("9: BAD_TEXT if a character cannot stand there", "put('tx')", "read() = BAD_TEXT", "put(',t')", "read() = BAD_TEXT",
            "count(10) = 4", "count(0) = 0");
        Run.due("9: one line", "put('b')", "read() = 1", "of(0, 0) = BLANK", "of(0, 3) = 0");
        Run.due("9: one after the other, behind those that are there", "name(1, 1)", "write('t@1,n0999@30,l,b,n70')", "read() = 6",
            "of(0, 2) = 1", "of(1, 0) = TITLE", "of(1, 3) = 1", "of(2, 1) = 0", "of(2, 2) = 999", "of(2, 3) = 30",
            "of(3, 0) = PICTURE", "of(3, 3) = 0", "of(3, 1) = NONE", "of(4, 0) = BLANK", "of(5, 1) = 7", "of(5, 2) = 0",
            "of(5, 3) = 0");
    }

    private static void readEmptiesThePad() {
        Run.due("9: empties the pad", "put('t')", "read() = 1", "count(10) = 0", "fault() = 0", "read() = BAD_TEXT", "put('b')",
            "read() = 2", "of(1, 0) = BLANK");
        Run.due("9: an error leaves the pad", "put('t,')", "read() = BAD_TEXT", "count(10) = 2", "put('b')", "read() = 2");
        Run.due("9: all lines are one change", "write('t,t,t,t,t,t,t,t')", "read() = 8", "count(11) = 1", "undo() = 0", "count(0) = 0",
            "count(10) = 0");
    }

    private static void readUpToForty() {
        String[] thirty = {"7 x put('t,t,t,t,')", "put('t,t') = 59", "fault() = NONE"};
        Run.due("9: the most lines of a pad", Run.with(thirty, "read() = 30", "of(29, 0) = TITLE", "of(30, 0) = NO_SUCH"));
        Run.due("9: 40 with those of the pad", Run.with(thirty, "10 x line(BLANK)", "read() = 40", "of(9, 0) = BLANK",
            "of(10, 0) = TITLE", "of(39, 0) = TITLE", "put('b')", "read() = TOO_MANY", "count(0) = 40"));
        Run.due("9: TOO_MANY if there would be more than 40", Run.with(thirty, "11 x line(BLANK)", "read() = TOO_MANY",
            "count(0) = 11", "count(10) = 59", "drop(0) = 10", "read() = 40"));
        Run.due("9: one line more than 39", "39 x line(BLANK)", "put('t,t')", "read() = TOO_MANY", "wipe()", "put('t')", "read() = 40",
            "put('t')", "read() = TOO_MANY", "count(10) = 1");
    }
}
