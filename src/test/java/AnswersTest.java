/** Promises 10 to 13: what there is. */
public final class AnswersTest {
    public static void main(String[] args) {
        ofTells();
        ofSeen();
        ofSeenAtCues();
        ofErrors();
        groupTells();
        groupSeenOnce();
        groupErrors();
        atTells();
        atSpeed();
        atErrors();
        countTells();
        countErrors();
        namesAndGroupsAreCounted();
        fortyCues();
        droppedLinesAreNotSeen();
        nothingChanges();
        Due.end("AnswersTest");
    }

    private static CreditScroll some() {
        CreditScroll x = new CreditScroll();
        x.name(3, 333);
        x.line(CreditScroll.TITLE);
        x.line(CreditScroll.PICTURE);
        x.line(CreditScroll.BLANK);
        x.name(7, 0);
        x.cue(2, 12);
        return x;
    }

    private static void ofTells() {
        CreditScroll x = some();
        int[][] due = {
            {0, 3, 333, 0, 0, 1},
            {1, -6, -6, 0, 1, 2},
            {2, -6, -6, 12, 3, 3},
            {3, -6, -6, 0, 6, 1},
            {0, 7, 0, 0, 7, 1}};
        for (int line = 0; line < due.length; line++) {
            for (int what = 0; what <= 5; what++) {
                Due.is("10: of(" + line + ", " + what + ")", x.of(line, what), due[line][what]);
            }
        }
    }

    private static void ofSeen() {
        CreditScroll x = some();
        // The speed is 5 till 30 tenths at the time 6, and 12 from then on: 42, 54, 66, 78, 90, 102, ..
        Due.is("10: ticks of line 0", x.of(0, 6), 10);
        Due.is("10: first of line 0", x.of(0, 7), 2);
        Due.is("10: last of line 0", x.of(0, 8), 11);
        Due.is("10: ticks of line 1", x.of(1, 6), 7);
        Due.is("10: first of line 1", x.of(1, 7), 6);
        Due.is("10: last of line 1", x.of(1, 8), 12);
        Due.is("10: ticks of line 4", x.of(4, 6), 7);
        Due.is("10: first of line 4", x.of(4, 7), 11);
        Due.is("10: last of line 4", x.of(4, 8), 17);
        CreditScroll y = new CreditScroll();
        y.set(CreditScroll.SCREEN, 4);
        y.set(CreditScroll.SPEED, 30);
        y.set(CreditScroll.LOGO, 4);
        y.line(CreditScroll.PICTURE);
        Due.is("10: never seen", y.of(0, 6), 0);
        Due.is("10: never first", y.of(0, 7), CreditScroll.NONE);
        Due.is("10: never last", y.of(0, 8), CreditScroll.NONE);
        y.set(CreditScroll.SPEED, 20);
        Due.is("10: seen once", y.of(0, 6), 1);
        Due.is("10: first is last", y.of(0, 7), 2);
        Due.is("10: last is first", y.of(0, 8), 2);
    }

    private static void ofSeenAtCues() {
        CreditScroll x = new CreditScroll();
        x.set(CreditScroll.SCREEN, 4);
        for (int i = 0; i < 6; i++) {
            x.name(0, i);
        }
        x.cue(1, 10);
        x.cue(4, 30);
        // 5, 10, 20, 30, 40, 70, 100: what is seen at 10 or 40 is seen at the very time at which the speed changes.
        int[][] due = {{4, 2, 5}, {3, 3, 5}, {2, 4, 5}, {2, 5, 6}, {1, 6, 6}, {1, 6, 6}};
        for (int i = 0; i < due.length; i++) {
            for (int what = 6; what <= 8; what++) {
                Due.is("10: at cues, of(" + i + ", " + what + ")", x.of(i, what), due[i][what - 6]);
            }
        }
    }

    private static void ofErrors() {
        CreditScroll x = new CreditScroll();
        Due.is("10: no line", x.of(0, 9), CreditScroll.NO_SUCH);
        x.line(1);
        Due.is("10: line -1", x.of(-1, 0), CreditScroll.NO_SUCH);
        Due.is("10: line 1", x.of(1, 0), CreditScroll.NO_SUCH);
        Due.is("10: line least", x.of(Integer.MIN_VALUE, -1), CreditScroll.NO_SUCH);
        Due.is("10: line most", x.of(Integer.MAX_VALUE, 0), CreditScroll.NO_SUCH);
        Due.is("10: what -1", x.of(0, -1), CreditScroll.BAD_VALUE);
        Due.is("10: what 9", x.of(0, 9), CreditScroll.BAD_VALUE);
    }

    private static void groupTells() {
        CreditScroll x = some();
        x.name(3, 444);
        x.name(3, 555);
        Due.is("11: names", x.group(3, 0), 3);
        Due.is("11: spread", x.group(3, 1), 2);
        Due.is("11: least", x.group(3, 2), 8);
        // The lines 5 and 6 are both seen for 8 ticks.
        Due.is("11: line of the least", x.group(3, 3), 5);
        Due.is("11: first number", x.group(3, 4), 333);
        Due.is("11: one name", x.group(7, 0), 1);
        Due.is("11: one name is equal", x.group(7, 1), 0);
        Due.is("11: its ticks", x.group(7, 2), 7);
        Due.is("11: its line", x.group(7, 3), 4);
        Due.is("11: its number", x.group(7, 4), 0);
        x.cue(2, 0);
        Due.is("11: equal", x.group(3, 1), 0);
        Due.is("11: the topmost of equals", x.group(3, 3), 0);
    }

    private static void groupSeenOnce() {
        CreditScroll x = new CreditScroll();
        x.set(CreditScroll.SCREEN, 4);
        x.set(CreditScroll.SPEED, 30);
        for (int i = 0; i < 30; i++) {
            x.name(5, i);
        }
        x.cue(0, 30);
        // A name is seen within 31 heights, of which 30 tenths a tick meet one or two: no name can be missed.
        Due.is("11: once at least", x.group(5, 2), 1);
        Due.is("11: spread", x.group(5, 1), 1);
        CreditScroll y = new CreditScroll();
        y.line(CreditScroll.PICTURE);
        y.set(CreditScroll.LOGO, 4);
        y.name(5, 1);
        y.set(CreditScroll.SCREEN, 4);
        y.set(CreditScroll.SPEED, 30);
        Due.is("13: a logo is no name", y.count(6), 0);
        Due.is("10: the logo is never seen", y.of(0, 6), 0);
        // The name is seen from 50 to 80 tenths: at 60 alone.
        Due.is("11: seen once", y.group(5, 2), 1);
    }

    private static void groupErrors() {
        CreditScroll x = some();
        Due.is("11: group -1", x.group(-1, 0), CreditScroll.BAD_VALUE);
        Due.is("11: group 8", x.group(8, 0), CreditScroll.BAD_VALUE);
        Due.is("11: what -1", x.group(0, -1), CreditScroll.BAD_VALUE);
        Due.is("11: what 5", x.group(0, 5), CreditScroll.BAD_VALUE);
        Due.is("11: both", x.group(Integer.MAX_VALUE, Integer.MIN_VALUE), CreditScroll.BAD_VALUE);
        int[] due = {0, 0, CreditScroll.NONE, CreditScroll.NONE, CreditScroll.NONE};
        for (int what = 0; what < 5; what++) {
            Due.is("11: no names, " + what, x.group(0, what), due[what]);
        }
    }

    private static void atTells() {
        CreditScroll x = some();
        int[][] due = {
            {0, -6, -6, 0, 5, 0},
            {1, -6, -6, 0, 5, 5},
            {2, 0, 0, 1, 5, 10},
            {5, 0, 0, 1, 5, 25},
            {6, 0, 1, 2, 12, 30},
            {11, 0, 4, 5, 12, 90},
            {12, 1, 4, 4, 12, 102},
            {13, 2, 4, 3, 12, 114},
            {17, 4, 4, 1, 12, 162},
            {18, -6, -6, 0, 12, 174},
            {9999, -6, -6, 0, 12, 30 + 12 * 9993}};
        for (int[] row : due) {
            for (int what = 0; what < 5; what++) {
                Due.is("12: at(" + row[0] + ", " + what + ")", x.at(row[0], what), row[what + 1]);
            }
        }
        CreditScroll y = new CreditScroll();
        Due.is("12: no lines, first", y.at(3, 0), CreditScroll.NONE);
        Due.is("12: no lines, last", y.at(3, 1), CreditScroll.NONE);
        Due.is("12: no lines, seen", y.at(3, 2), 0);
        Due.is("12: no lines, speed", y.at(3, 3), 5);
        Due.is("12: no lines, moved", y.at(9999, 4), 49995);
    }

    private static void atSpeed() {
        CreditScroll x = new CreditScroll();
        for (int i = 0; i < 6; i++) {
            x.name(0, i);
        }
        x.cue(0, 25);
        x.cue(1, 2);
        x.cue(2, 3);
        x.cue(5, 1);
        // One tick of 25 brings the cues of the lines 1 and 2 over the bottom at once: the last one counts.
        Due.is("12: the first line's cue counts at once", x.at(0, 3), 25);
        Due.is("12: moved by it", x.at(1, 4), 25);
        Due.is("12: the lowest cue counts", x.at(1, 3), 3);
        Due.is("12: till the next", x.at(9, 4), 49);
        Due.is("12: ahead of the next", x.at(9, 3), 3);
        Due.is("12: at the next", x.at(10, 3), 1);
        Due.is("12: moved then", x.at(11, 4), 53);
        x.cue(5, 0);
        x.cue(3, 30);
        Due.is("12: ahead of 30 tenths", x.at(2, 3), 3);
        Due.is("12: moved ahead", x.at(2, 4), 28);
        Due.is("12: behind 30 tenths", x.at(3, 3), 30);
        Due.is("12: moved behind", x.at(3, 4), 31);
    }

    private static void atErrors() {
        CreditScroll x = some();
        Due.is("12: time -1", x.at(-1, 0), CreditScroll.BAD_VALUE);
        Due.is("12: time 10000", x.at(10000, 0), CreditScroll.BAD_VALUE);
        Due.is("12: time least", x.at(Integer.MIN_VALUE, 4), CreditScroll.BAD_VALUE);
        Due.is("12: time most", x.at(Integer.MAX_VALUE, 4), CreditScroll.BAD_VALUE);
        Due.is("12: what -1", x.at(0, -1), CreditScroll.BAD_VALUE);
        Due.is("12: what 5", x.at(0, 5), CreditScroll.BAD_VALUE);
    }

    private static void countTells() {
        CreditScroll x = some();
        x.name(3, 1);
        x.put(Texts.code("b,t"));
        int[] due = {6, 3, 9, 20, 1, 1, 0, 10, 5, 3, 3, 6};
        for (int what = 0; what < due.length; what++) {
            Due.is("13: count(" + what + ")", x.count(what), due[what]);
        }
        x.set(CreditScroll.SCREEN, 4);
        x.set(CreditScroll.SPEED, 30);
        x.set(CreditScroll.LOGO, 1);
        x.cue(0, 1);
        int[] then = {6, 3, 7, 37, 1, 2, 0, 4, 30, 1, 3, 6};
        for (int what = 0; what < then.length; what++) {
            Due.is("13: then count(" + what + ")", x.count(what), then[what]);
        }
    }

    private static void countErrors() {
        CreditScroll x = some();
        Due.is("13: what -1", x.count(-1), CreditScroll.BAD_VALUE);
        Due.is("13: what 12", x.count(12), CreditScroll.BAD_VALUE);
        Due.is("13: least", x.count(Integer.MIN_VALUE), CreditScroll.BAD_VALUE);
        Due.is("13: most", x.count(Integer.MAX_VALUE), CreditScroll.BAD_VALUE);
        CreditScroll y = new CreditScroll();
        Due.is("13: no ticks without lines", y.count(3), 0);
        y.set(CreditScroll.SPEED, 1);
        for (int i = 0; i < 40; i++) {
            y.line(CreditScroll.PICTURE);
        }
        y.set(CreditScroll.SCREEN, 20);
        y.set(CreditScroll.LOGO, 4);
        Due.is("13: the most rows", y.count(2), 160);
        Due.is("13: the most ticks", y.count(3), 1800);
        Due.is("13: the most changes", y.count(11), 6);
    }

    private static void namesAndGroupsAreCounted() {
        for (int group = 0; group < 8; group++) {
            CreditScroll x = new CreditScroll();
            x.name(group, 1);
            x.line(CreditScroll.TITLE);
            x.line(CreditScroll.BLANK);
            x.name(group, 2);
            x.name((group + 1) % 8, 3);
            x.name((group + 1) % 8, 4);
            x.name((group + 2) % 8, 5);
            Due.is("13: all groups are equal", x.count(4), 0);
            // 5 tenths a tick till 40, then 10: the first name is seen for 13 ticks, the others for 10.
            x.cue(3, 10);
            Due.is("13: names, group " + group, x.count(1), 5);
            Due.is("13: the unequal group " + group, x.count(4), 1);
            Due.is("11: its spread", x.group(group, 1), 3);
        }
    }

    private static void fortyCues() {
        CreditScroll x = new CreditScroll();
        for (int i = 0; i < 40; i++) {
            x.name(i % 8, i);
            x.cue(i, 1 + i % 2);
        }
        // The odd lines' cues take 5 ticks for a row, the even lines' 10; the last 110 tenths take 55.
        Due.is("13: ticks of 40 cues", x.count(3), 20 * 10 + 19 * 5 + 55);
        Due.is("12: ahead of the last cue", x.at(294, 3), 1);
        Due.is("12: at the last cue", x.at(295, 3), 2);
        Due.is("12: moved at the last cue", x.at(295, 4), 390);
        Due.is("12: moved behind it", x.at(9999, 4), 390 + 2 * 9704);
        Due.is("13: 40 cues", x.count(5), 40);
        Due.is("10: first of the last", x.of(39, 7), 300);
        Due.is("10: last of the last", x.of(39, 8), 345);
    }

    private static void droppedLinesAreNotSeen() {
        CreditScroll x = new CreditScroll();
        for (int i = 0; i < 5; i++) {
            x.name(i, i);
        }
        Due.is("12: five", x.at(10, 2), 5);
        x.drop(4);
        x.drop(0);
        Due.is("12: three", x.at(10, 2), 3);
        Due.is("12: the first of three", x.at(10, 0), 0);
        Due.is("12: the last of three", x.at(10, 1), 2);
        x.undo();
        Due.is("12: four again", x.at(10, 2), 4);
        while (x.count(0) > 0) {
            x.drop(0);
        }
        Due.is("12: none seen", x.at(10, 2), 0);
        Due.is("12: no first", x.at(10, 0), CreditScroll.NONE);
        Due.is("12: no last", x.at(10, 1), CreditScroll.NONE);
        Due.is("13: no names", x.count(1), 0);
        Due.is("11: no names", x.group(0, 0), 0);
    }

    private static void nothingChanges() {
        CreditScroll x = some();
        x.put(Texts.code("t,b"));
        int changes = x.count(11);
        for (int what = -1; what < 13; what++) {
            x.of(2, what);
            x.group(3, what);
            x.at(20, what);
            x.count(what);
        }
        Due.is("10 to 13: no change is recorded", x.count(11), changes);
        Due.is("10 to 13: pad stays", x.count(10), 3);
        Due.is("10 to 13: lines stay", x.count(0), 5);
        Due.is("10 to 13: ticks stay", x.of(0, 6), 10);
    }
}
