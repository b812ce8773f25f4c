/** Runs of calls that a fixed row of numbers picks: the class has to answer as the model does. */
public final class ModelTest {
    private static final int RUNS = 300;
    private static final int CALLS = 512;

    private final Model model = new Model();
    private final CreditScroll x = new CreditScroll();
    private long seed;
    private final int run;

    private ModelTest(int run) {
        this.run = run;
        this.seed = run * 7919L + 1;
    }

    public static void main(String[] args) {
        for (int run = 0; run < RUNS; run++) {
            new ModelTest(run).play();
        }
        Due.end("ModelTest");
    }

    private void play() {
        for (int i = 0; i < CALLS; i++) {
            step(i);
        }
    }

    private int pick(int many) {
        seed = seed * 6364136223846793005L + 1442695040888963407L;
        return (int) ((seed >>> 33) % many);
    }

    /** Mostly a number of the range, now and then one at its edge, beside it, or far away. */
    private int some(int least, int most) {
        int[] odd = {least - 1, most + 1, least, most, Integer.MIN_VALUE, Integer.MAX_VALUE};
        return pick(12) == 0 ? odd[pick(6)] : least + pick(most - least + 1);
    }

    private int someLine() {
        return some(0, Math.max(0, model.now.lines.size() - 1));
    }

    private void due(int call, String what, int got, int want) {
        Due.is("run " + run + ", call " + call + ": " + what, got, want);
    }

    private void step(int i) {
        // Some runs grow long, some stay short, some are full of cues.
        int kind = pick(run % 3 == 0 ? 90 : 110);
        if (kind < 40) {
            change(i, kind);
        } else if (kind < 60) {
            text(i, kind);
        } else if (kind < 68) {
            keep(i, kind);
        } else if (kind < 76) {
            whatIf(i, kind);
        } else {
            ask(i, kind);
        }
    }

    private void change(int i, int kind) {
        int a;
        int b;
        if (kind < 4) {
            a = some(0, 2);
            b = a == 0 ? some(4, 20) : a == 1 ? some(1, 30) : some(1, 4);
            due(i, "set(" + a + ", " + b + ")", x.set(a, b), model.set(a, b));
        } else if (kind < 14) {
            a = run % 2 == 0 ? some(0, 7) : some(0, 1);
            b = some(0, 999);
            due(i, "name(" + a + ", " + b + ")", x.name(a, b), model.name(a, b));
        } else if (kind < 18) {
            a = some(1, 3);
            due(i, "line(" + a + ")", x.line(a), model.line(a));
        } else if (kind < 26) {
            a = someLine();
            b = run % 5 == 0 ? some(0, 3) : some(0, 30);
            due(i, "cue(" + a + ", " + b + ")", x.cue(a, b), model.cue(a, b));
        } else if (kind < 32) {
            a = someLine();
            b = someLine();
            due(i, "move(" + a + ", " + b + ")", x.move(a, b), model.move(a, b));
        } else if (kind < 34) {
            a = someLine();
            due(i, "drop(" + a + ")", x.drop(a), model.drop(a));
        } else {
            a = some(0, 7);
            b = some(1, 40);
            due(i, "turn(" + a + ", " + b + ")", x.turn(a, b), model.turn(a, b));
        }
    }

    private void text(int i, int kind) {
        if (kind < 53) {
            long code = pick(10) == 0 ? somePieces() : Texts.code(somePiece());
            due(i, "put(" + code + ")", x.put(code), model.put(code));
        } else if (kind < 55) {
            due(i, "wipe()", x.wipe(), model.wipe());
        } else if (kind < 57) {
            due(i, "fault()", x.fault(), model.fault());
        } else {
            due(i, "read()", x.read(), model.read());
        }
    }

    private long somePieces() {
        seed = seed * 6364136223846793005L + 1442695040888963407L;
        return pick(2) == 0 ? seed : seed >>> 8 * pick(8);
    }

    private String somePiece() {
        String[] pieces = {"n", "n0", "n71", "n3999", "t", "l", "b", ",", "@", "@1", "@30", "@31", "@0", "1", "0", "00", "9", "8",
            "t@2", ",t", "t,", "n12@5,", "b,l,t", ",n745", "x", "~", "n01", "t@29,b"};
        if (model.fault() == Model.NONE) {
            String[] goesOn = {",", ",", ",t@5", "@12", ",n04", "9"};
            return goesOn[pick(6)];
        }
        if (model.fault() == model.pad.length()) {
            String[] goesOn = {"n0", "n12@5,", "b,l,t", "t@30", "5", "n74", "t,"};
            return pick(4) == 0 ? pieces[pick(pieces.length)] : goesOn[pick(7)];
        }
        return pieces[pick(pieces.length)];
    }

    private void keep(int i, int kind) {
        int a = some(0, 1);
        if (kind < 64) {
            due(i, "undo()", x.undo(), model.undo());
        } else if (kind < 66) {
            due(i, "save(" + a + ")", x.save(a), model.save(a));
        } else {
            due(i, "restore(" + a + ")", x.restore(a), model.restore(a));
        }
    }

    private void whatIf(int i, int kind) {
        int a;
        int b;
        int c;
        if (kind < 69) {
            a = some(0, 1);
            due(i, "blame(" + a + ")", x.blame(a), model.blame(a));
        } else if (kind < 71) {
            a = pick(3) == 0 ? some(1, 200) : some(1, 20);
            due(i, "speedFor(" + a + ")", x.speedFor(a), model.speedFor(a));
        } else if (kind < 74) {
            a = someLine();
            b = some(1, 30);
            due(i, "seenIf(" + a + ", " + b + ")", x.seenIf(a, b), model.seenIf(a, b));
        } else {
            a = someLine();
            b = run % 2 == 0 ? some(0, 7) : some(0, 1);
            c = some(0, 1);
            due(i, "bestCue(" + a + ", " + b + ", " + c + ")", x.bestCue(a, b, c), model.bestCue(a, b, c));
        }
    }

    private void ask(int i, int kind) {
        int a;
        int b;
        if (kind < 84) {
            a = someLine();
            b = some(0, 8);
            due(i, "of(" + a + ", " + b + ")", x.of(a, b), model.of(a, b));
        } else if (kind < 92) {
            a = run % 2 == 0 ? some(0, 7) : some(0, 1);
            b = some(0, 4);
            due(i, "group(" + a + ", " + b + ")", x.group(a, b), model.group(a, b));
        } else if (kind < 100) {
            a = pick(20) == 0 ? some(0, 9999) : some(0, 100);
            b = some(0, 4);
            due(i, "at(" + a + ", " + b + ")", x.at(a, b), model.at(a, b));
        } else {
            a = some(0, 11);
            due(i, "count(" + a + ")", x.count(a), model.count(a));
        }
    }
}
