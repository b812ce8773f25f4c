import java.util.ArrayList;
import java.util.Arrays;
import java.util.List;
import java.util.Map;

/**
 * Runs of calls, written as texts: "cue(0, 31) = BAD_VALUE" is a call with the answer that is due, "cue(0, 30)" one whose
 * answer is looked at elsewhere, "40 x name(0, #)" stands for name(0, 0) to name(0, 39), "put('t@3')" puts up to eight
 * characters and "write('..')" as many puts as a longer text takes.
 */
final class Run {
    private static final int MOST_CALLS = 512;
    private static final List<String> ASKING = List.of("of", "group", "at", "count", "blame", "speedFor", "seenIf", "bestCue", "fault");
    private static final Map<String, Long> NAMES = Map.ofEntries(
        Map.entry("NO_SUCH", -1L), Map.entry("BAD_VALUE", -2L), Map.entry("BAD_TEXT", -3L), Map.entry("TOO_MANY", -4L),
        Map.entry("NOT_POSSIBLE", -5L), Map.entry("NONE", -6L), Map.entry("SCREEN", 0L), Map.entry("SPEED", 1L),
        Map.entry("LOGO", 2L), Map.entry("NAME", 0L), Map.entry("TITLE", 1L), Map.entry("PICTURE", 2L),
        Map.entry("BLANK", 3L), Map.entry("MIN", (long) Integer.MIN_VALUE), Map.entry("MAX", (long) Integer.MAX_VALUE));

    private final CreditScroll x = new CreditScroll();
    private int calls;

    private Run(List<String> before) {
        for (String call : before) {
            ask(call);
        }
    }

    /**
     * Plays the calls on a new object and looks at the answers that are due. Behind every call that is refused, and every
     * one that only asks, all has to be as it was ahead of it.
     */
    static void due(String sentence, String... calls) {
        List<String> all = unfolded(calls);
        Run run = new Run(List.of());
        String known = null;
        for (int i = 0; i < all.size(); i++) {
            String call = all.get(i);
            int end = call.indexOf(" = ");
            long answer = run.ask(call);
            if (end >= 0) {
                Due.is(sentence + ": " + call.substring(0, end), answer, number(call.substring(end + 3)));
            }
            if (isError(answer) || ASKING.contains(nameOf(call))) {
                known = known == null ? known(all.subList(0, i)) : known;
                Due.same(sentence + ": all that is known behind " + call, known(all.subList(0, i + 1)), known);
            } else {
                known = null;
            }
        }
    }

    /** All values from least to most are taken in the place of '#'; those beside them, and far ones, answer the error. */
    static void range(String sentence, int least, int most, String error, String call, String... before) {
        for (int value = least; value <= most; value++) {
            long answer = new Run(unfolded(before)).ask(call.replace("#", "" + value));
            Due.is(sentence + ": is an error: " + call + " with " + value, isError(answer) ? answer : 0, 0);
        }
        for (String value : new String[] {"" + (least - 1), "" + (most + 1), "MIN", "MAX"}) {
            due(sentence, with(before, call.replace("#", value) + " = " + error));
        }
    }

    /** The calls, and more of them. */
    static String[] with(String[] calls, String... more) {
        String[] all = Arrays.copyOf(calls, calls.length + more.length);
        System.arraycopy(more, 0, all, calls.length, more.length);
        return all;
    }

    private static boolean isError(long answer) {
        return answer >= -5 && answer <= -1;
    }

    /** What can be seen of the object behind the calls: now, behind every undo, behind read and in the slots. */
    private static String known(List<String> calls) {
        StringBuilder known = new StringBuilder();
        for (int undone = 0; undone <= 6; undone++) {
            known.append(seen(calls, "undo()", undone));
        }
        known.append(seen(calls, "read()", 1));
        known.append(seen(calls, "restore(0)", 1));
        known.append(seen(calls, "restore(1)", 1));
        return known.toString();
    }

    private static String seen(List<String> calls, String then, int times) {
        Run run = new Run(calls);
        StringBuilder seen = new StringBuilder("\nbehind " + times + " x " + then + ":");
        for (int i = 0; i < times; i++) {
            seen.append(" ").append(run.ask(then));
        }
        for (int what = 0; what <= 11; what++) {
            seen.append(" ").append(run.ask("count(" + what + ")"));
        }
        seen.append(" ").append(run.ask("fault()"));
        long lines = run.ask("count(0)");
        for (int line = 0; line < lines; line++) {
            for (int what = 0; what <= 8; what++) {
                seen.append(what == 0 ? " | " : " ").append(run.ask("of(" + line + ", " + what + ")"));
            }
        }
        return seen.toString();
    }

    private static List<String> unfolded(String... calls) {
        List<String> all = new ArrayList<>();
        for (String call : calls) {
            int times = call.indexOf(" x ");
            int many = times < 0 ? 1 : Integer.parseInt(call.substring(0, times));
            String one = times < 0 ? call : call.substring(times + 3);
            for (int i = 0; i < many; i++) {
                unfold(one.replace("#", "" + i), all);
            }
        }
        return all;
    }

    private static void unfold(String call, List<String> all) {
        if (!nameOf(call).equals("write")) {
            all.add(call);
            return;
        }
        String text = text(call);
        for (int i = 0; i < text.length(); i += 8) {
            int end = Math.min(text.length(), i + 8);
            all.add("put('" + text.substring(i, end) + "')");
        }
    }

    private static String nameOf(String call) {
        return call.substring(0, call.indexOf('('));
    }

    private static String text(String call) {
        return call.substring(call.indexOf('\'') + 1, call.lastIndexOf('\''));
    }

    private static long number(String text) {
        Long named = NAMES.get(text.trim());
        return named == null ? Long.parseLong(text.trim()) : named;
    }

    private static long[] numbers(String call) {
        if (call.indexOf('\'') >= 0) {
            return new long[] {Texts.code(text(call))};
        }
        String inside = call.substring(call.indexOf('(') + 1, call.indexOf(')')).trim();
        String[] texts = inside.isEmpty() ? new String[0] : inside.split(",");
        long[] numbers = new long[texts.length];
        for (int i = 0; i < texts.length; i++) {
            numbers[i] = number(texts[i]);
        }
        return numbers;
    }

    private long ask(String call) {
        calls++;
        if (calls > MOST_CALLS) {
            throw new IllegalStateException("what an object answers to its call " + calls + " is free");
        }
        long[] numbers = numbers(call);
        String name = nameOf(call);
        if (name.equals("put")) {
            return x.put(numbers[0]);
        }
        int[] a = new int[3];
        for (int i = 0; i < numbers.length; i++) {
            a[i] = (int) numbers[i];
        }
        return ask(name + "/" + numbers.length, a[0], a[1], a[2]);
    }

    private long ask(String method, int a, int b, int c) {
        switch (method) {
            case "set/2": return x.set(a, b);
            case "name/2": return x.name(a, b);
            case "line/1": return x.line(a);
            case "cue/2": return x.cue(a, b);
            case "move/2": return x.move(a, b);
            case "drop/1": return x.drop(a);
            case "turn/2": return x.turn(a, b);
            case "read/0": return x.read();
            case "of/2": return x.of(a, b);
            case "group/2": return x.group(a, b);
            case "at/2": return x.at(a, b);
            case "count/1": return x.count(a);
            case "blame/1": return x.blame(a);
            case "speedFor/1": return x.speedFor(a);
            case "seenIf/2": return x.seenIf(a, b);
            case "bestCue/3": return x.bestCue(a, b, c);
            case "wipe/0": return x.wipe();
            case "fault/0": return x.fault();
            case "undo/0": return x.undo();
            case "save/1": return x.save(a);
            case "restore/1": return x.restore(a);
            default: throw new IllegalArgumentException("no such call: " + method);
        }
    }
}
