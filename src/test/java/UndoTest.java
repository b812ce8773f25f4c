/** Promises 21 to 23: undo and the slots. */
public final class UndoTest {
    public static void main(String[] args) {
        undo();
        undoOfEachChange();
        historyOfSix();
        errorsAreNotRecorded();
        save();
        restore();
        slotsAndHistoryStay();
        Due.end("UndoTest");
    }

    private static void undo() {
        CreditScroll x = new CreditScroll();
        Due.is("21: none", x.undo(), CreditScroll.NOT_POSSIBLE);
        x.line(1);
        x.line(2);
        Due.is("21: one left", x.undo(), 1);
        Due.is("21: one line", x.count(0), 1);
        Due.is("21: none left", x.undo(), 0);
        Due.is("21: no line", x.count(0), 0);
        Due.is("21: no more", x.undo(), CreditScroll.NOT_POSSIBLE);
        x.set(CreditScroll.SPEED, 5);
        Due.is("21: nothing was different", x.undo(), 0);
    }

    private static CreditScroll two() {
        CreditScroll x = new CreditScroll();
        x.name(0, 1);
        x.name(0, 2);
        x.line(2);
        x.cue(1, 7);
        x.save(1);
        x.set(CreditScroll.LOGO, 2);
        x.put('t');
        return x;
    }

    private static void undoOfEachChange() {
        for (int change = 0; change < 9; change++) {
            CreditScroll x = two();
            switch (change) {
                case 0: x.set(CreditScroll.SPEED, 30); break;
                case 1: x.name(7, 7); break;
                case 2: x.line(3); break;
                case 3: x.cue(1, 0); break;
                case 4: x.move(0, 2); break;
                case 5: x.drop(1); break;
                case 6: x.turn(0, 1); break;
                case 7: x.read(); break;
                default: x.restore(1); break;
            }
            Due.is("21: change " + change + " is recorded", x.count(11), 6);
            Due.is("21: change " + change + " is undone", x.undo(), 5);
            CreditScroll due = two();
            for (int line = 0; line < 4; line++) {
                for (int what = 0; what < 9; what++) {
                    Due.is("21: change " + change + ", of(" + line + ", " + what + ")", x.of(line, what), due.of(line, what));
                }
            }
            for (int what = 0; what < 10; what++) {
                Due.is("21: change " + change + ", count(" + what + ")", x.count(what), due.count(what));
            }
        }
    }

    private static void historyOfSix() {
        CreditScroll x = new CreditScroll();
        for (int i = 1; i <= 20; i++) {
            x.line(1);
            Due.is("21: kept", x.count(11), Math.min(i, 6));
        }
        for (int i = 5; i >= 3; i--) {
            Due.is("21: undo", x.undo(), i);
        }
        Due.is("21: 17 lines", x.count(0), 17);
        x.line(2);
        x.line(2);
        Due.is("21: five", x.count(11), 5);
        for (int i = 4; i >= 0; i--) {
            Due.is("21: undo again", x.undo(), i);
        }
        Due.is("21: 14 lines", x.count(0), 14);
        Due.is("21: no more", x.undo(), CreditScroll.NOT_POSSIBLE);
    }

    private static void errorsAreNotRecorded() {
        CreditScroll x = new CreditScroll();
        x.set(3, 0);
        x.name(8, 0);
        x.line(0);
        x.cue(0, 1);
        x.move(0, 0);
        x.drop(0);
        x.turn(0, 1);
        x.read();
        x.restore(0);
        x.restore(2);
        x.save(2);
        x.put(0);
        Due.is("21: no error is recorded", x.count(11), 0);
    }

    private static void save() {
        CreditScroll x = new CreditScroll();
        Due.is("22: slot -1", x.save(-1), CreditScroll.BAD_VALUE);
        Due.is("22: slot 2", x.save(2), CreditScroll.BAD_VALUE);
        Due.is("22: no lines", x.save(0), 0);
        x.line(1);
        x.line(1);
        Due.is("22: two lines", x.save(1), 2);
        Due.is("22: is no change", x.count(11), 2);
        x.line(1);
        Due.is("22: overwrites", x.save(1), 3);
        x.drop(0);
        x.drop(0);
        Due.is("22: the last one", x.restore(1), 3);
        Due.is("22: the other slot", x.restore(0), 0);
        Due.is("22: empty", x.count(0), 0);
    }

    private static void restore() {
        CreditScroll x = new CreditScroll();
        Due.is("23: slot -1", x.restore(-1), CreditScroll.BAD_VALUE);
        Due.is("23: slot 2", x.restore(2), CreditScroll.BAD_VALUE);
        Due.is("23: slot least", x.restore(Integer.MIN_VALUE), CreditScroll.BAD_VALUE);
        Due.is("23: nothing saved in 0", x.restore(0), CreditScroll.NOT_POSSIBLE);
        Due.is("23: nothing saved in 1", x.restore(1), CreditScroll.NOT_POSSIBLE);
        x.name(5, 55);
        x.cue(0, 6);
        x.set(CreditScroll.SCREEN, 20);
        x.set(CreditScroll.SPEED, 2);
        x.set(CreditScroll.LOGO, 1);
        x.save(0);
        Due.is("23: still nothing in 1", x.restore(1), CreditScroll.NOT_POSSIBLE);
        x.set(CreditScroll.SCREEN, 4);
        x.set(CreditScroll.SPEED, 3);
        x.set(CreditScroll.LOGO, 4);
        x.cue(0, 0);
        x.drop(0);
        x.put('t');
        for (int i = 0; i < 2; i++) {
            Due.is("23: restored", x.restore(0), 1);
            Due.is("23: group", x.of(0, 1), 5);
            Due.is("23: number", x.of(0, 2), 55);
            Due.is("23: cue", x.of(0, 3), 6);
            Due.is("23: SCREEN", x.count(7), 20);
            Due.is("23: SPEED", x.count(8), 2);
            Due.is("23: LOGO", x.count(9), 1);
            Due.is("23: the pad stays", x.count(10), 1);
            Due.is("23: is a change", x.count(11), 6);
            x.cue(0, 9);
            x.name(1, 1);
            x.turn(1, 1);
        }
    }

    private static void slotsAndHistoryStay() {
        CreditScroll x = new CreditScroll();
        x.line(1);
        x.save(0);
        x.line(1);
        x.undo();
        x.undo();
        Due.is("21: a slot is not undone", x.restore(0), 1);
        Due.is("23: can be undone", x.undo(), 0);
        Due.is("23: undone", x.count(0), 0);
        x.line(2);
        x.line(2);
        x.line(2);
        x.restore(0);
        Due.is("23: the history goes on", x.count(11), 4);
        x.undo();
        Due.is("23: three lines again", x.count(0), 3);
        Due.is("23: the history behind it", x.undo(), 2);
    }
}
