import java.util.ArrayList;
import java.util.List;
import java.util.regex.Matcher;
import java.util.regex.Pattern;

/** The document once more, in its slowest form: every tick is gone through. The class is compared with it. */
final class Model {
    static final int NO_SUCH = -1, BAD_VALUE = -2, BAD_TEXT = -3, TOO_MANY = -4, NOT_POSSIBLE = -5, NONE = -6;

    private static final String LINE = "(?:n([0-7])(0|[1-9][0-9]{0,2})|([tlb]))(?:@([12][0-9]|30|[1-9]))?";
    private static final Pattern ONE_LINE = Pattern.compile(LINE);
    private static final Pattern TEXT = Pattern.compile(LINE + "(?:," + LINE + ")*");

    static final class Line {
        final int kind, group, number, cue;

        Line(int kind, int group, int number, int cue) {
            this.kind = kind;
            this.group = group;
            this.number = number;
            this.cue = cue;
        }

        Line withCue(int other) {
            return new Line(kind, group, number, other);
        }

        Line withNumber(int other) {
            return new Line(kind, group, other, cue);
        }
    }

    static final class State {
        final List<Line> lines;
        final int[] settings;

        State(List<Line> lines, int[] settings) {
            this.lines = new ArrayList<>(lines);
            this.settings = settings.clone();
        }

        State copy() {
            return new State(lines, settings);
        }

        int height(int line) {
            int kind = lines.get(line).kind;
            return kind == 1 ? 2 : kind == 2 ? settings[2] : 1;
        }

        int above(int line) {
            int rows = 0;
            for (int i = 0; i < line; i++) {
                rows += height(i);
            }
            return rows;
        }

        int rows() {
            return above(lines.size());
        }

        int speed(int moved) {
            int speed = settings[1];
            int top = 0;
            for (int i = 0; i < lines.size(); i++) {
                if (lines.get(i).cue > 0 && settings[0] * 10 + top * 10 - moved <= settings[0] * 10) {
                    speed = lines.get(i).cue;
                }
                top += height(i);
            }
            return speed;
        }

        int[] movedTill(int times) {
            int[] moved = new int[times + 1];
            for (int t = 0; t < times; t++) {
                moved[t + 1] = moved[t] + speed(moved[t]);
            }
            return moved;
        }

        int[] movedTillOver() {
            int ticks = 0;
            int moved = 0;
            while (!lines.isEmpty() && settings[0] * 10 + rows() * 10 - moved > 0) {
                moved += speed(moved);
                ticks++;
            }
            return movedTill(ticks);
        }

        boolean isSeen(int line, int moved) {
            int top = settings[0] * 10 + above(line) * 10 - moved;
            return top >= 0 && top + height(line) * 10 <= settings[0] * 10;
        }

        /** Ticks, first time and last time. */
        int[] seen(int line) {
            int[] moved = movedTillOver();
            int[] seen = {0, NONE, NONE};
            for (int t = 1; t < moved.length; t++) {
                if (isSeen(line, moved[t])) {
                    seen[0]++;
                    seen[1] = seen[1] == NONE ? t : seen[1];
                    seen[2] = t;
                }
            }
            return seen;
        }

        List<Integer> namesOf(int group) {
            List<Integer> names = new ArrayList<>();
            for (int i = 0; i < lines.size(); i++) {
                if (lines.get(i).kind == 0 && lines.get(i).group == group) {
                    names.add(i);
                }
            }
            return names;
        }

        int spread(int group) {
            List<Integer> names = namesOf(group);
            if (names.size() < 2) {
                return 0;
            }
            int least = Integer.MAX_VALUE;
            int most = 0;
            for (int line : names) {
                int ticks = seen(line)[0];
                least = Math.min(least, ticks);
                most = Math.max(most, ticks);
            }
            return most - least;
        }

        int spreads() {
            int sum = 0;
            for (int group = 0; group < 8; group++) {
                sum += spread(group);
            }
            return sum;
        }

        int count(boolean names, boolean neverSeen, boolean cues) {
            int count = 0;
            for (int i = 0; i < lines.size(); i++) {
                boolean fits = (!names || lines.get(i).kind == 0) && (!cues || lines.get(i).cue > 0);
                if (fits && (!neverSeen || seen(i)[0] == 0)) {
                    count++;
                }
            }
            return count;
        }
    }

    State now = new State(new ArrayList<>(), new int[] {10, 5, 3});
    final List<State> history = new ArrayList<>();
    final State[] slots = new State[2];
    String pad = "";

    private void record() {
        history.add(now.copy());
        if (history.size() > 6) {
            history.remove(0);
        }
    }

    private boolean has(int line) {
        return line >= 0 && line < now.lines.size();
    }

    private static boolean in(int value, int least, int most) {
        return value >= least && value <= most;
    }

    int set(int setting, int value) {
        int[][] ranges = {{4, 20}, {1, 30}, {1, 4}};
        if (!in(setting, 0, 2) || !in(value, ranges[setting][0], ranges[setting][1])) return BAD_VALUE;
        record();
        int previous = now.settings[setting];
        now.settings[setting] = value;
        return previous;
    }

    int name(int group, int number) {
        if (!in(group, 0, 7) || !in(number, 0, 999)) return BAD_VALUE;
        return add(new Line(0, group, number, 0));
    }

    int line(int kind) {
        if (!in(kind, 1, 3)) return BAD_VALUE;
        return add(new Line(kind, NONE, NONE, 0));
    }

    private int add(Line line) {
        if (now.lines.size() == 40) return TOO_MANY;
        record();
        now.lines.add(line);
        return now.lines.size() - 1;
    }

    int cue(int line, int speed) {
        if (!has(line)) return NO_SUCH;
        if (!in(speed, 0, 30)) return BAD_VALUE;
        record();
        return now.lines.set(line, now.lines.get(line).withCue(speed)).cue;
    }

    int move(int line, int place) {
        if (!has(line) || !has(place)) return NO_SUCH;
        record();
        int before = now.movedTillOver().length;
        now.lines.add(place, now.lines.remove(line));
        return now.movedTillOver().length - before + 10000;
    }

    int drop(int line) {
        if (!has(line)) return NO_SUCH;
        record();
        now.lines.remove(line);
        return now.lines.size();
    }

    int turn(int group, int times) {
        if (!in(group, 0, 7) || !in(times, 1, 40)) return BAD_VALUE;
        List<Integer> places = now.namesOf(group);
        if (places.isEmpty()) return NOT_POSSIBLE;
        record();
        List<Integer> numbers = new ArrayList<>();
        for (int place : places) {
            numbers.add(now.lines.get(place).number);
        }
        for (int i = 0; i < times; i++) {
            numbers.add(numbers.remove(0));
        }
        for (int i = 0; i < places.size(); i++) {
            now.lines.set(places.get(i), now.lines.get(places.get(i)).withNumber(numbers.get(i)));
        }
        return numbers.get(0);
    }

    int read() {
        if (fault() != NONE) return BAD_TEXT;
        String[] texts = pad.split(",");
        if (texts.length + now.lines.size() > 40) return TOO_MANY;
        record();
        for (String text : texts) {
            Matcher m = ONE_LINE.matcher(text);
            m.matches();
            int speed = m.group(4) == null ? 0 : Integer.parseInt(m.group(4));
            if (m.group(3) == null) {
                now.lines.add(new Line(0, Integer.parseInt(m.group(1)), Integer.parseInt(m.group(2)), speed));
            } else {
                now.lines.add(new Line("?tlb".indexOf(m.group(3)), NONE, NONE, speed));
            }
        }
        pad = "";
        return now.lines.size();
    }

    int of(int line, int what) {
        if (!has(line)) return NO_SUCH;
        Line l = now.lines.get(line);
        switch (what) {
            case 0: return l.kind;
            case 1: return l.group;
            case 2: return l.number;
            case 3: return l.cue;
            case 4: return now.above(line);
            case 5: return now.height(line);
            case 6: case 7: case 8: return now.seen(line)[what - 6];
            default: return BAD_VALUE;
        }
    }

    int group(int group, int what) {
        if (!in(group, 0, 7) || !in(what, 0, 4)) return BAD_VALUE;
        List<Integer> names = now.namesOf(group);
        if (what == 0) return names.size();
        if (what == 1) return now.spread(group);
        if (names.isEmpty()) return NONE;
        if (what == 4) return now.lines.get(names.get(0)).number;
        int least = Integer.MAX_VALUE;
        int line = NONE;
        for (int name : names) {
            int ticks = now.seen(name)[0];
            if (ticks < least) {
                least = ticks;
                line = name;
            }
        }
        return what == 2 ? least : line;
    }

    int at(int time, int what) {
        if (!in(time, 0, 9999) || !in(what, 0, 4)) return BAD_VALUE;
        int moved = now.movedTill(time)[time];
        if (what == 3) return now.speed(moved);
        if (what == 4) return moved;
        int first = NONE;
        int last = NONE;
        int many = 0;
        for (int i = 0; i < now.lines.size(); i++) {
            if (now.isSeen(i, moved)) {
                first = first == NONE ? i : first;
                last = i;
                many++;
            }
        }
        return what == 0 ? first : what == 1 ? last : many;
    }

    int count(int what) {
        switch (what) {
            case 0: return now.lines.size();
            case 1: return now.count(true, false, false);
            case 2: return now.rows();
            case 3: return now.movedTillOver().length - 1;
            case 4: {
                int unequal = 0;
                for (int group = 0; group < 8; group++) {
                    unequal += now.spread(group) == 0 ? 0 : 1;
                }
                return unequal;
            }
            case 5: return now.count(false, false, true);
            case 6: return now.count(true, true, false);
            case 7: case 8: case 9: return now.settings[what - 7];
            case 10: return pad.length();
            case 11: return history.size();
            default: return BAD_VALUE;
        }
    }

    int blame(int what) {
        if (!in(what, 0, 1)) return BAD_VALUE;
        int line = NONE;
        int least = NONE;
        for (int i = now.lines.size() - 1; i >= 0; i--) {
            if (now.lines.get(i).cue > 0) {
                State other = now.copy();
                other.lines.set(i, now.lines.get(i).withCue(0));
                int sum = other.spreads();
                if (line == NONE || sum <= least) {
                    line = i;
                    least = sum;
                }
            }
        }
        return what == 0 ? line : least;
    }

    int speedFor(int ticks) {
        if (!in(ticks, 1, 200)) return BAD_VALUE;
        int best = NONE;
        for (int speed = 1; speed <= 30; speed++) {
            State other = now.copy();
            other.settings[1] = speed;
            boolean enough = true;
            for (int i = 0; i < other.lines.size(); i++) {
                other.lines.set(i, other.lines.get(i).withCue(0));
            }
            for (int i = 0; i < other.lines.size(); i++) {
                enough &= other.lines.get(i).kind != 0 || other.seen(i)[0] >= ticks;
            }
            best = enough ? speed : best;
        }
        return best;
    }

    int seenIf(int line, int speed) {
        if (!has(line)) return NO_SUCH;
        if (!in(speed, 1, 30)) return BAD_VALUE;
        State other = now.copy();
        other.settings[1] = speed;
        return other.seen(line)[0];
    }

    int bestCue(int line, int group, int what) {
        if (!has(line)) return NO_SUCH;
        if (!in(group, 0, 7) || !in(what, 0, 1)) return BAD_VALUE;
        int best = NONE;
        int least = NONE;
        for (int speed = 1; speed <= 30; speed++) {
            State other = now.copy();
            other.lines.set(line, now.lines.get(line).withCue(speed));
            int spread = other.spread(group);
            if (best == NONE || spread <= least) {
                best = speed;
                least = spread;
            }
        }
        return what == 0 ? best : least;
    }

    int put(long characters) {
        StringBuilder text = new StringBuilder();
        boolean ended = false;
        for (int shift = 0; shift < 64; shift += 8) {
            int code = (int) (characters >> shift & 255);
            if (code == 0) {
                ended = true;
            } else if (ended || !in(code, 33, 126)) {
                return BAD_VALUE;
            } else {
                text.insert(0, (char) code);
            }
        }
        if (text.length() == 0) return BAD_VALUE;
        if (pad.length() + text.length() > 60) return TOO_MANY;
        pad += text;
        return pad.length();
    }

    int wipe() {
        int length = pad.length();
        pad = "";
        return length;
    }

    int fault() {
        for (int length = 1; length <= pad.length(); length++) {
            Matcher m = TEXT.matcher(pad.substring(0, length));
            if (!m.matches() && !m.hitEnd()) return length - 1;
        }
        return TEXT.matcher(pad).matches() ? NONE : pad.length();
    }

    int undo() {
        if (history.isEmpty()) return NOT_POSSIBLE;
        now = history.remove(history.size() - 1);
        return history.size();
    }

    int save(int slot) {
        if (!in(slot, 0, 1)) return BAD_VALUE;
        slots[slot] = now.copy();
        return now.lines.size();
    }

    int restore(int slot) {
        if (!in(slot, 0, 1)) return BAD_VALUE;
        if (slots[slot] == null) return NOT_POSSIBLE;
        record();
        now = slots[slot].copy();
        return now.lines.size();
    }
}
