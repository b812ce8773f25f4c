/** Promises 14 to 17: what if. */
public final class WhatIfTest {
    public static void main(String[] args) {
        blame();
        blameOfEquals();
        blameErrors();
        speedFor();
        speedForErrors();
        seenIf();
        bestCue();
        bestCueErrors();
        nothingChanges();
        Due.end("WhatIfTest");
    }

    private static CreditScroll names(int many) {
        CreditScroll x = new CreditScroll();
        for (int i = 0; i < many; i++) {
            x.name(i % 2, i);
        }
        return x;
    }

    private static void blame() {
        CreditScroll x = names(8);
        x.cue(2, 5);
        x.cue(5, 20);
        Due.is("14: the line", x.blame(0), 5);
        Due.is("14: the sum", x.blame(1), 0);
        x.cue(5, 0);
        Due.is("14: the only one", x.blame(0), 2);
        Due.is("14: its sum", x.blame(1), 0);
        x.cue(7, 1);
        x.cue(1, 2);
        x.cue(2, 0);
        Due.is("14: of two", x.blame(0), leastSumLine(1, 2, 7, 1));
        CreditScroll y = names(2);
        y.cue(0, 9);
        Due.is("14: at the first line", y.blame(0), 0);
        Due.is("14: sum without it", y.blame(1), 0);
        for (int group = 0; group < 8; group++) {
            CreditScroll z = new CreditScroll();
            z.name(group, 1);
            z.name(group, 2);
            z.cue(0, 1);
            z.cue(1, 3);
            z.line(CreditScroll.TITLE);
            z.cue(2, 30);
            Due.is("14: every group counts, " + group, z.blame(1), leastSumOfThree(group));
        }
    }

    private static int leastSumOfThree(int group) {
        int[] speeds = {1, 3, 30};
        int least = Integer.MAX_VALUE;
        for (int without = 0; without < 3; without++) {
            CreditScroll z = new CreditScroll();
            z.name(group, 1);
            z.name(group, 2);
            z.line(CreditScroll.TITLE);
            for (int line = 0; line < 3; line++) {
                z.cue(line, line == without ? 0 : speeds[line]);
            }
            least = Math.min(least, z.group(group, 1));
        }
        Due.is("14: a spread stays", least > 0 ? 1 : 0, 1);
        return least;
    }

    private static int leastSumLine(int one, int speed, int other, int otherSpeed) {
        CreditScroll withoutOne = names(8);
        withoutOne.cue(other, otherSpeed);
        CreditScroll withoutOther = names(8);
        withoutOther.cue(one, speed);
        int sumWithoutOne = withoutOne.group(0, 1) + withoutOne.group(1, 1);
        int sumWithoutOther = withoutOther.group(0, 1) + withoutOther.group(1, 1);
        return sumWithoutOne <= sumWithoutOther ? one : other;
    }

    private static void blameOfEquals() {
        CreditScroll x = names(6);
        x.cue(1, 5);
        x.cue(3, 5);
        x.cue(4, 5);
        Due.is("14: the topmost of equals", x.blame(0), 1);
        Due.is("14: sum of equals", x.blame(1), 0);
        CreditScroll y = new CreditScroll();
        y.line(1);
        y.line(1);
        y.cue(1, 30);
        Due.is("14: without names", y.blame(0), 1);
        Due.is("14: sum without names", y.blame(1), 0);
        // The other cue stays.
        CreditScroll z = names(6);
        z.cue(3, 1);
        z.cue(5, 30);
        Due.is("14: a sum that is not 0", z.blame(1), Math.min(sumWith(3, 1), sumWith(5, 30)));
        Due.is("14: it is not 0", z.blame(1) > 0 ? 1 : 0, 1);
    }

    private static int sumWith(int line, int speed) {
        CreditScroll x = names(6);
        x.cue(line, speed);
        return x.group(0, 1) + x.group(1, 1);
    }

    private static void blameErrors() {
        CreditScroll x = new CreditScroll();
        Due.is("14: what -1", x.blame(-1), CreditScroll.BAD_VALUE);
        Due.is("14: what 2", x.blame(2), CreditScroll.BAD_VALUE);
        Due.is("14: no lines, line", x.blame(0), CreditScroll.NONE);
        Due.is("14: no lines, sum", x.blame(1), CreditScroll.NONE);
        x.name(0, 0);
        Due.is("14: no cues, line", x.blame(0), CreditScroll.NONE);
        Due.is("14: no cues, sum", x.blame(1), CreditScroll.NONE);
    }

    private static void speedFor() {
        CreditScroll x = names(1);
        // A name is seen from 10 to 100 tenths.
        int[][] due = {{1, 30}, {2, 30}, {3, 30}, {4, 25}, {5, 20}, {6, 16}, {9, 11}, {10, 10}, {11, 8}, {91, 1}, {92, -6}, {200, -6}};
        for (int[] row : due) {
            Due.is("15: speedFor(" + row[0] + ")", x.speedFor(row[0]), row[1]);
        }
        x.cue(0, 1);
        x.set(CreditScroll.SPEED, 30);
        Due.is("15: cues do not count", x.speedFor(4), 25);
        x.line(CreditScroll.PICTURE);
        x.set(CreditScroll.LOGO, 4);
        Due.is("15: names alone count", x.speedFor(4), 25);
        x.set(CreditScroll.SCREEN, 20);
        Due.is("15: the screen counts", x.speedFor(191), 1);
        Due.is("15: no name so long", x.speedFor(192), CreditScroll.NONE);
        x.set(CreditScroll.SCREEN, 10);
        CreditScroll y = names(1);
        y.line(CreditScroll.BLANK);
        y.name(1, 1);
        // The second name is seen from 30 to 120 tenths: 25 show it at 50, 75 and 100 alone.
        Due.is("15: each name counts", y.speedFor(4), 24);
        CreditScroll z = new CreditScroll();
        z.line(CreditScroll.BLANK);
        z.line(CreditScroll.BLANK);
        z.name(0, 0);
        // Seen from 30 to 120 tenths: 14 show it for 6 ticks only, 15 for 7.
        Due.is("15: a slower one may be worse", z.speedFor(7), 15);
    }

    private static void speedForErrors() {
        CreditScroll x = new CreditScroll();
        Due.is("15: ticks 0", x.speedFor(0), CreditScroll.BAD_VALUE);
        Due.is("15: ticks 201", x.speedFor(201), CreditScroll.BAD_VALUE);
        Due.is("15: ticks least", x.speedFor(Integer.MIN_VALUE), CreditScroll.BAD_VALUE);
        Due.is("15: without lines", x.speedFor(200), 30);
        x.line(CreditScroll.PICTURE);
        x.line(CreditScroll.TITLE);
        x.line(CreditScroll.BLANK);
        Due.is("15: without names", x.speedFor(200), 30);
        Due.is("15: without names, 1", x.speedFor(1), 30);
    }

    private static void seenIf() {
        CreditScroll x = names(2);
        x.line(CreditScroll.PICTURE);
        Due.is("16: no line -1", x.seenIf(-1, 1), CreditScroll.NO_SUCH);
        Due.is("16: no line 3", x.seenIf(3, 1), CreditScroll.NO_SUCH);
        Due.is("16: line first", x.seenIf(3, 0), CreditScroll.NO_SUCH);
        Due.is("16: speed 0", x.seenIf(0, 0), CreditScroll.BAD_VALUE);
        Due.is("16: speed 31", x.seenIf(0, 31), CreditScroll.BAD_VALUE);
        Due.is("16: speed -1", x.seenIf(0, -1), CreditScroll.BAD_VALUE);
        Due.is("16: slowest", x.seenIf(0, 1), 91);
        Due.is("16: fastest", x.seenIf(0, 30), 3);
        Due.is("16: fastest, line 1", x.seenIf(1, 30), 3);
        Due.is("16: a logo", x.seenIf(2, 10), 8);
        x.cue(0, 9);
        Due.is("16: cues stay", x.seenIf(0, 1), 10);
        x.cue(0, 0);
        x.cue(1, 10);
        Due.is("16: a later cue stays", x.seenIf(0, 1), 10);
        Due.is("16: a later cue stays, fast", x.seenIf(0, 30), 8);
    }

    private static void bestCue() {
        CreditScroll x = names(8);
        Due.is("17: new", x.bestCue(4, 0, 0), leastSpread(4, 0, false));
        Due.is("17: new, spread", x.bestCue(4, 0, 1), leastSpread(4, 0, true));
        Due.is("17: equal with 5", x.bestCue(4, 1, 1), 0);
        x.cue(4, 29);
        Due.is("17: in place", x.bestCue(4, 1, 0), leastSpread(4, 1, false));
        Due.is("17: in place, spread", x.bestCue(4, 1, 1), leastSpread(4, 1, true));
        Due.is("17: without names", x.bestCue(0, 5, 0), 30);
        Due.is("17: without names, spread", x.bestCue(0, 5, 1), 0);
        CreditScroll y = names(1);
        Due.is("17: one name", y.bestCue(0, 0, 0), 30);
        CreditScroll slow = names(7);
        slow.set(CreditScroll.SPEED, 1);
        Due.is("17: the slowest", slow.bestCue(6, 0, 0), 1);
        Due.is("17: the slowest, spread", slow.bestCue(6, 0, 1), 0);
        CreditScroll z = names(3);
        z.cue(2, 1);
        z.set(CreditScroll.SPEED, 30);
        // The cue of the line 2 stays: the first name is slowed down too late, whatever the line 1 does.
        Due.is("17: a spread that is not 0", z.bestCue(1, 0, 1), leastOfThree());
    }

    private static int leastOfThree() {
        int least = Integer.MAX_VALUE;
        for (int speed = 1; speed <= 30; speed++) {
            CreditScroll z = names(3);
            z.cue(2, 1);
            z.set(CreditScroll.SPEED, 30);
            z.cue(1, speed);
            least = Math.min(least, z.group(0, 1));
        }
        return least;
    }

    private static int leastSpread(int line, int group, boolean spread) {
        int best = 0;
        int least = Integer.MAX_VALUE;
        for (int speed = 1; speed <= 30; speed++) {
            CreditScroll x = names(8);
            x.cue(line, speed);
            if (x.group(group, 1) <= least) {
                least = x.group(group, 1);
                best = speed;
            }
        }
        return spread ? least : best;
    }

    private static void bestCueErrors() {
        CreditScroll x = new CreditScroll();
        Due.is("17: no line", x.bestCue(0, 8, 2), CreditScroll.NO_SUCH);
        x.line(1);
        Due.is("17: line -1", x.bestCue(-1, 0, 0), CreditScroll.NO_SUCH);
        Due.is("17: line 1", x.bestCue(1, 0, 0), CreditScroll.NO_SUCH);
        Due.is("17: group -1", x.bestCue(0, -1, 0), CreditScroll.BAD_VALUE);
        Due.is("17: group 8", x.bestCue(0, 8, 0), CreditScroll.BAD_VALUE);
        Due.is("17: what -1", x.bestCue(0, 0, -1), CreditScroll.BAD_VALUE);
        Due.is("17: what 2", x.bestCue(0, 0, 2), CreditScroll.BAD_VALUE);
    }

    private static void nothingChanges() {
        CreditScroll x = names(8);
        x.cue(3, 17);
        x.cue(6, 4);
        x.put(Texts.code("t@30,b"));
        int ticks = x.count(3);
        int changes = x.count(11);
        x.blame(0);
        x.speedFor(3);
        x.seenIf(2, 9);
        x.bestCue(2, 0, 0);
        x.bestCue(3, 0, 1);
        Due.is("14 to 17: ticks", x.count(3), ticks);
        Due.is("14 to 17: speed", x.count(8), 5);
        Due.is("14 to 17: cue", x.of(3, 3), 17);
        Due.is("14 to 17: no cue", x.of(2, 3), 0);
        Due.is("14 to 17: cues", x.count(5), 2);
        Due.is("14 to 17: changes", x.count(11), changes);
        Due.is("14 to 17: pad", x.read(), 10);
    }
}
