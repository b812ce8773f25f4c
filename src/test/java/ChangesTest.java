/** Promises 1 to 9: a new object and what changes it. */
public final class ChangesTest {
    public static void main(String[] args) {
        newObject();
        set();
        setDecides();
        name();
        line();
        cue();
        move();
        movedNamesAndTicks();
        drop();
        turn();
        read();
        readTooMany();
        Due.end("ChangesTest");
    }

    private static void newObject() {
        CreditScroll x = new CreditScroll();
        for (int what = 0; what <= 6; what++) {
            Due.is("1: count(" + what + ")", x.count(what), 0);
        }
        Due.is("1: SCREEN", x.count(7), 10);
        Due.is("1: SPEED", x.count(8), 5);
        Due.is("1: LOGO", x.count(9), 3);
        Due.is("1: pad", x.count(10), 0);
        Due.is("1: history", x.count(11), 0);
        Due.is("1: no line", x.of(0, 0), CreditScroll.NO_SUCH);
        Due.is("1: slot 0", x.restore(0), CreditScroll.NOT_POSSIBLE);
        Due.is("1: slot 1", x.restore(1), CreditScroll.NOT_POSSIBLE);
    }

    private static void set() {
        int[] least = {4, 1, 1};
        int[] most = {20, 30, 4};
        int[] first = {10, 5, 3};
        for (int setting = 0; setting < 3; setting++) {
            CreditScroll x = new CreditScroll();
            Due.is("2: below", x.set(setting, least[setting] - 1), CreditScroll.BAD_VALUE);
            Due.is("2: above", x.set(setting, most[setting] + 1), CreditScroll.BAD_VALUE);
            Due.is("2: far below", x.set(setting, Integer.MIN_VALUE), CreditScroll.BAD_VALUE);
            Due.is("2: far above", x.set(setting, Integer.MAX_VALUE), CreditScroll.BAD_VALUE);
            Due.is("2: errors record nothing", x.count(11), 0);
            Due.is("2: least", x.set(setting, least[setting]), first[setting]);
            Due.is("2: most", x.set(setting, most[setting]), least[setting]);
            Due.is("2: again", x.set(setting, most[setting]), most[setting]);
            Due.is("2: is a change", x.count(11), 3);
            for (int other = 0; other < 3; other++) {
                Due.is("2: setting " + other, x.count(7 + other), other == setting ? most[setting] : first[other]);
            }
        }
        CreditScroll x = new CreditScroll();
        Due.is("2: no setting -1", x.set(-1, 5), CreditScroll.BAD_VALUE);
        Due.is("2: no setting 3", x.set(3, 5), CreditScroll.BAD_VALUE);
        Due.is("2: no setting least", x.set(Integer.MIN_VALUE, 5), CreditScroll.BAD_VALUE);
        Due.is("2: no setting most", x.set(Integer.MAX_VALUE, 5), CreditScroll.BAD_VALUE);
    }

    private static void setDecides() {
        CreditScroll x = new CreditScroll();
        x.line(CreditScroll.PICTURE);
        Due.is("2: logo at first", x.of(0, 5), 3);
        x.set(CreditScroll.LOGO, 4);
        Due.is("2: logo then", x.of(0, 5), 4);
        Due.is("2: ticks", x.count(3), 28);
        x.set(CreditScroll.SCREEN, 4);
        Due.is("2: ticks on a low screen", x.count(3), 16);
        x.set(CreditScroll.SPEED, 1);
        Due.is("2: ticks, slow", x.count(3), 80);
        Due.is("2: as high as the screen", x.of(0, 6), 1);
    }

    private static void name() {
        CreditScroll x = new CreditScroll();
        Due.is("3: group -1", x.name(-1, 0), CreditScroll.BAD_VALUE);
        Due.is("3: group 8", x.name(8, 0), CreditScroll.BAD_VALUE);
        Due.is("3: number -1", x.name(0, -1), CreditScroll.BAD_VALUE);
        Due.is("3: number 1000", x.name(0, 1000), CreditScroll.BAD_VALUE);
        Due.is("3: both", x.name(Integer.MIN_VALUE, Integer.MAX_VALUE), CreditScroll.BAD_VALUE);
        Due.is("3: nothing added", x.count(0), 0);
        for (int i = 0; i < 40; i++) {
            Due.is("3: place", x.name(i % 8, i * 25 + i % 25), i);
        }
        Due.is("3: least group", x.of(8, 1), 0);
        Due.is("3: most group", x.of(7, 1), 7);
        Due.is("3: its number", x.of(39, 2), 39 * 25 + 14);
        Due.is("3: its kind", x.of(39, 0), CreditScroll.NAME);
        Due.is("3: no cue", x.of(39, 3), 0);
        Due.is("3: the 41st", x.name(0, 0), CreditScroll.TOO_MANY);
        Due.is("3: value first", x.name(0, 1000), CreditScroll.BAD_VALUE);
        Due.is("3: still 40", x.count(0), 40);
        x.drop(39);
        Due.is("3: number 999", x.name(7, 999), 39);
        Due.is("3: number 999 stands", x.of(39, 2), 999);
    }

    private static void line() {
        CreditScroll x = new CreditScroll();
        Due.is("4: no name", x.line(CreditScroll.NAME), CreditScroll.BAD_VALUE);
        Due.is("4: kind 4", x.line(4), CreditScroll.BAD_VALUE);
        Due.is("4: kind -1", x.line(-1), CreditScroll.BAD_VALUE);
        Due.is("4: least", x.line(Integer.MIN_VALUE), CreditScroll.BAD_VALUE);
        for (int i = 0; i < 40; i++) {
            Due.is("4: place", x.line(1 + i % 3), i);
        }
        for (int i = 0; i < 40; i++) {
            Due.is("4: kind", x.of(i, 0), 1 + i % 3);
            Due.is("4: height", x.of(i, 5), i % 3 == 0 ? 2 : i % 3 == 1 ? 3 : 1);
        }
        Due.is("4: the 41st", x.line(1), CreditScroll.TOO_MANY);
        Due.is("4: value first", x.line(0), CreditScroll.BAD_VALUE);
        Due.is("4: is a change", x.count(11), 6);
        x.undo();
        Due.is("4: undone", x.count(0), 39);
    }

    private static void cue() {
        CreditScroll x = new CreditScroll();
        Due.is("5: no line", x.cue(0, 31), CreditScroll.NO_SUCH);
        x.line(1);
        x.line(1);
        Due.is("5: line -1", x.cue(-1, 5), CreditScroll.NO_SUCH);
        Due.is("5: line 2", x.cue(2, 5), CreditScroll.NO_SUCH);
        Due.is("5: line first", x.cue(Integer.MAX_VALUE, 31), CreditScroll.NO_SUCH);
        Due.is("5: speed -1", x.cue(1, -1), CreditScroll.BAD_VALUE);
        Due.is("5: speed 31", x.cue(1, 31), CreditScroll.BAD_VALUE);
        Due.is("5: errors record nothing", x.count(11), 2);
        Due.is("5: new", x.cue(1, 30), 0);
        Due.is("5: another", x.cue(1, 1), 30);
        Due.is("5: counted", x.count(5), 1);
        Due.is("5: of", x.of(1, 3), 1);
        Due.is("5: other line", x.of(0, 3), 0);
        Due.is("5: ticks", x.count(3), 4 + 120);
        Due.is("5: away", x.cue(1, 0), 1);
        Due.is("5: away again", x.cue(1, 0), 0);
        Due.is("5: gone", x.count(5), 0);
        Due.is("5: is a change", x.count(11), 6);
    }

    private static void move() {
        CreditScroll x = new CreditScroll();
        for (int i = 0; i < 5; i++) {
            x.name(i, 10 + i);
        }
        x.cue(1, 7);
        Due.is("6: line -1", x.move(-1, 0), CreditScroll.NO_SUCH);
        Due.is("6: line 5", x.move(5, 0), CreditScroll.NO_SUCH);
        Due.is("6: place -1", x.move(0, -1), CreditScroll.NO_SUCH);
        Due.is("6: place 5", x.move(0, 5), CreditScroll.NO_SUCH);
        Due.is("6: errors record nothing", x.count(11), 6);
        x.move(1, 3);
        numbers("6: down", x, 10, 12, 13, 11, 14);
        Due.is("6: with its cue", x.of(3, 3), 7);
        Due.is("6: with its group", x.of(3, 1), 1);
        Due.is("6: others without", x.of(1, 3), 0);
        x.move(4, 0);
        numbers("6: up", x, 14, 10, 12, 13, 11);
        Due.is("6: cue follows", x.of(4, 3), 7);
        x.move(0, 4);
        numbers("6: to the end", x, 10, 12, 13, 11, 14);
        Due.is("6: to itself", x.move(2, 2), 10000);
        numbers("6: to itself", x, 10, 12, 13, 11, 14);
        x.undo();
        numbers("6: that was a change", x, 10, 12, 13, 11, 14);
        x.undo();
        numbers("6: undone", x, 14, 10, 12, 13, 11);
        x.line(2);
        x.move(5, 0);
        Due.is("6: a logo moves", x.of(0, 0), CreditScroll.PICTURE);
        Due.is("6: all below it", x.of(1, 4), 3);
    }

    private static void movedNamesAndTicks() {
        CreditScroll x = new CreditScroll();
        x.line(1);
        x.line(1);
        x.cue(1, 20);
        Due.is("6: shorter", x.move(1, 0), 10000 - 3);
        x.undo();
        Due.is("6: ticks ahead", x.count(3), 4 + 6);
        x.move(1, 0);
        Due.is("6: ticks then", x.count(3), 7);
        Due.is("6: longer", x.move(0, 1), 10003);
        x.set(CreditScroll.SPEED, 1);
        x.set(CreditScroll.SCREEN, 20);
        for (int i = 0; i < 38; i++) {
            x.line(1);
        }
        x.cue(1, 30);
        // 20 ticks of one tenth bring the second title over the bottom; the other 980 tenths take 33 ticks of 30.
        Due.is("6: ticks of 40", x.count(3), 20 + 33);
        // 780 ticks bring the last title over the bottom; the other 220 tenths take 8 ticks of 30.
        Due.is("6: much longer", x.move(1, 39), 10000 + 788 - 53);
        Due.is("6: ticks of 40 then", x.count(3), 780 + 8);
        Due.is("6: much shorter", x.move(39, 1), 10000 + 53 - 788);
    }

    private static void numbers(String what, CreditScroll x, int... due) {
        for (int i = 0; i < due.length; i++) {
            Due.is(what + ", line " + i, x.of(i, 2), due[i]);
        }
    }

    private static void drop() {
        CreditScroll x = new CreditScroll();
        Due.is("7: none", x.drop(0), CreditScroll.NO_SUCH);
        for (int i = 0; i < 4; i++) {
            x.name(i, i);
        }
        x.cue(2, 9);
        Due.is("7: line -1", x.drop(-1), CreditScroll.NO_SUCH);
        Due.is("7: line 4", x.drop(4), CreditScroll.NO_SUCH);
        Due.is("7: errors record nothing", x.count(11), 5);
        Due.is("7: in the middle", x.drop(1), 3);
        numbers("7: the others", x, 0, 2, 3);
        Due.is("7: a cue stays with its line", x.of(1, 3), 9);
        Due.is("7: last", x.drop(2), 2);
        Due.is("7: with its cue", x.drop(1), 1);
        Due.is("7: no cue left", x.count(5), 0);
        Due.is("7: the only one", x.drop(0), 0);
        Due.is("7: a new line has no cue", x.line(1), 0);
        Due.is("7: no cue", x.of(0, 3), 0);
    }

    private static void turn() {
        CreditScroll x = new CreditScroll();
        Due.is("8: group -1", x.turn(-1, 1), CreditScroll.BAD_VALUE);
        Due.is("8: group 8", x.turn(8, 1), CreditScroll.BAD_VALUE);
        Due.is("8: times 0", x.turn(0, 0), CreditScroll.BAD_VALUE);
        Due.is("8: times 41", x.turn(0, 41), CreditScroll.BAD_VALUE);
        Due.is("8: times least", x.turn(0, Integer.MIN_VALUE), CreditScroll.BAD_VALUE);
        Due.is("8: no names", x.turn(0, 1), CreditScroll.NOT_POSSIBLE);
        x.name(0, 1);
        x.line(1);
        x.name(1, 9);
        x.name(0, 2);
        x.name(0, 3);
        x.cue(0, 8);
        Due.is("8: errors record nothing", x.count(11), 6);
        Due.is("8: once", x.turn(0, 1), 2);
        numbers("8: once", x, 2, -6, 9, 3, 1);
        Due.is("8: a cue stays", x.of(0, 3), 8);
        Due.is("8: three times", x.turn(0, 3), 2);
        Due.is("8: forty times", x.turn(0, 40), 3);
        numbers("8: forty times", x, 3, -6, 9, 1, 2);
        Due.is("8: one name", x.turn(1, 1), 9);
        Due.is("8: another group", x.turn(2, 1), CreditScroll.NOT_POSSIBLE);
        Due.is("8: undo", x.undo(), 5);
        Due.is("8: undo", x.undo(), 4);
        numbers("8: undone", x, 2, -6, 9, 3, 1);
    }

    private static void read() {
        CreditScroll x = new CreditScroll();
        Due.is("9: empty pad", x.read(), CreditScroll.BAD_TEXT);
        x.line(3);
        Texts.write(x, "n0999@30,t,l@1,b@10,n70");
        Due.is("9: read", x.read(), 6);
        int[][] due = {{3, -6, -6, 0}, {0, 0, 999, 30}, {1, -6, -6, 0}, {2, -6, -6, 1}, {3, -6, -6, 10}, {0, 7, 0, 0}};
        for (int i = 0; i < due.length; i++) {
            for (int what = 0; what < 4; what++) {
                Due.is("9: of(" + i + ", " + what + ")", x.of(i, what), due[i][what]);
            }
        }
        Due.is("9: the pad is empty", x.count(10), 0);
        Due.is("9: one change", x.count(11), 2);
        Texts.write(x, "t,");
        Due.is("9: ends too early", x.read(), CreditScroll.BAD_TEXT);
        Due.is("9: pad stays", x.count(10), 2);
        Due.is("9: nothing added", x.count(0), 6);
        Due.is("9: nothing recorded", x.count(11), 2);
        Due.is("9: undo", x.undo(), 1);
        Due.is("9: all lines are gone", x.count(0), 1);
        Due.is("9: pad is not undone", x.count(10), 2);
    }

    private static void readTooMany() {
        CreditScroll x = new CreditScroll();
        for (int i = 0; i < 37; i++) {
            x.line(3);
        }
        Texts.write(x, "t,t,t,t");
        Due.is("9: 41", x.read(), CreditScroll.TOO_MANY);
        Due.is("9: pad stays", x.count(10), 7);
        Due.is("9: lines stay", x.count(0), 37);
        x.put(',');
        Due.is("9: text first", x.read(), CreditScroll.BAD_TEXT);
        x.wipe();
        Texts.write(x, "t,t,t");
        Due.is("9: 40", x.read(), 40);
        Texts.write(x, "b");
        Due.is("9: 41 by one", x.read(), CreditScroll.TOO_MANY);
        CreditScroll y = new CreditScroll();
        for (int i = 0; i < 7; i++) {
            y.put(Texts.code("t,t,t,t,"));
        }
        y.put(Texts.code("t,t"));
        Due.is("9: 30 lines", y.read(), 30);
        Due.is("9: nothing else came", y.count(2), 60);
    }
}
