import java.util.ArrayList;
import java.util.List;

/** Texts of the Terms and promises 18 to 20 at their edges: every rule of the grammar, and the characters that put takes. */
public final class TextsEdgesTest {
    private static final String THIRTY_LINES = "t,t,t,t,t,t,t,t,t,t,t,t,t,t,t,t,t,t,t,t,t,t,t,t,t,t,t,t,t,t";
    private static final String[] FULL_BUT_ONE = {"write('" + THIRTY_LINES + "')", "count(10) = 59"};
    private static final String LETTERS = "ntlb@,01389x";
    private static final int LONGEST = 5;

    public static void main(String[] args) {
        group();
        number();
        speed();
        kinds();
        separators();
        endsTooEarly();
        longTexts();
        everyShortText();
        everyCode();
        putCharacters();
        putOrder();
        putZeroBits();
        putTooMany();
        wipe();
        fault();
        Due.end("TextsEdgesTest");
    }

    /** The fault of a text, and that it is read just if it has none. */
    private static void text(String sentence, String text, String fault) {
        String read = fault.equals("NONE") ? "" + (text.split(",").length) : "BAD_TEXT";
        Run.due(sentence, "write('" + text + "')", "count(10) = " + text.length(), "fault() = " + fault, "read() = " + read);
    }

    private static void group() {
        for (int group = 0; group <= 7; group++) {
            text("Texts: a group is a digit from 0 to 7", "n" + group + "5", "NONE");
            Run.due("Texts: the group that is read", "put('n" + group + "5')", "read()", "of(0, 1) = " + group, "of(0, 2) = 5");
        }
        String sentence = "Texts: a group is no other character";
        text(sentence, "n8", "1");
        text(sentence, "n9", "1");
        text(sentence, "n85", "1");
        text(sentence, "n/5", "1");
        text(sentence, "n:5", "1");
        text(sentence, "n,", "1");
        text(sentence, "n@", "1");
        text(sentence, "nn", "1");
        text(sentence, "n@5", "1");
    }

    private static void number() {
        for (int number = 0; number <= 999; number += number < 11 || number > 988 ? 1 : 89) {
            Run.due("Texts: a number, 0 to 999", "put('n3" + number + "')", "fault() = NONE", "read() = 1", "of(0, 1) = 3",
                "of(0, 2) = " + number);
        }
        text("Texts: a number greater than 999", "n01000", "5");
        text("Texts: a number greater than 999", "n09990", "5");
        text("Texts: a number greater than 999", "n09999", "5");
        text("Texts: a number greater than 999", "n010000", "5");
        text("Texts: a number greater than 999, ahead of more", "n01000,t", "5");
        text("Texts: a number without leading zeros", "n00", "NONE");
        text("Texts: a number without leading zeros", "n000", "3");
        text("Texts: a number without leading zeros", "n001", "3");
        text("Texts: a number without leading zeros", "n009", "3");
        text("Texts: a number without leading zeros", "n0012", "3");
        text("Texts: a number may have zeros behind", "n0100", "NONE");
        text("Texts: a group is followed at once by its number", "n0,1", "2");
        text("Texts: a group is followed at once by its number", "n0@1", "2");
        text("Texts: a group is followed at once by its number", "n0.1", "2");
        text("Texts: a group is followed at once by its number", "n0/", "2");
        text("Texts: a group is followed at once by its number", "n0:", "2");
        text("Texts: what is no digit ends the number", "n09/", "3");
        text("Texts: what is no digit ends the number", "n09:", "3");
        text("Texts: what is no digit ends the number", "n099x", "4");
        text("Texts: what is no digit ends the number", "n0999x", "5");
    }

    private static void speed() {
        for (int speed = 1; speed <= 30; speed++) {
            Run.due("Texts: a speed is 1 to 30", "put('b@" + speed + "')", "fault() = NONE", "read() = 1", "of(0, 3) = " + speed);
        }
        for (int speed = 31; speed <= 99; speed++) {
            text("Texts: a speed greater than 30", "b@" + speed, "3");
        }
        text("Texts: a speed greater than 30", "t@100", "4");
        text("Texts: a speed greater than 30", "t@300", "4");
        text("Texts: a speed greater than 30", "t@301", "4");
        text("Texts: a speed greater than 30, ahead of more", "t@31,t", "3");
        text("Texts: a speed of 0", "t@0", "2");
        text("Texts: a speed of 0", "t@00", "2");
        text("Texts: a speed without leading zeros", "t@01", "2");
        text("Texts: a speed without leading zeros", "t@030", "2");
        text("Texts: a speed of no digit", "t@,", "2");
        text("Texts: a speed of no digit", "t@@", "2");
        text("Texts: a speed of no digit", "t@/", "2");
        text("Texts: a speed of no digit", "t@:", "2");
        text("Texts: a speed of no digit", "t@-1", "2");
        text("Texts: what is no digit ends the speed", "t@3/", "3");
        text("Texts: what is no digit ends the speed", "t@3:", "3");
        text("Texts: what is no digit ends the speed", "t@30x", "4");
    }

    private static void kinds() {
        String[] kinds = {"n00", "t", "l", "b"};
        for (int kind = 0; kind < 4; kind++) {
            text("Texts: a line without a cue", kinds[kind], "NONE");
            Run.due("Texts: '@': the line has a cue", "put('" + kinds[kind] + "@30')", "read() = 1", "of(0, 0) = " + kind,
                "of(0, 3) = 30");
            Run.due("Texts: a line without a cue", "put('" + kinds[kind] + "')", "read() = 1", "of(0, 0) = " + kind, "of(0, 3) = 0");
            if (kind != CreditScroll.NAME) {
                Run.due("9: a line that is no name has no group and no number", "put('n79')", "read()", "put('" + kinds[kind] + "')",
                    "read() = 2", "of(1, 1) = NONE", "of(1, 2) = NONE", "count(1) = 1");
            }
            text("Texts: one cue at the most", kinds[kind] + "@1@2", "" + (kinds[kind].length() + 2));
            text("Texts: nothing else behind a line", kinds[kind] + "t", "" + kinds[kind].length());
            text("Texts: nothing else behind a cue", kinds[kind] + "@1t", "" + (kinds[kind].length() + 2));
        }
        text("Texts: a number belongs to a name", "t1", "1");
        text("Texts: a number belongs to a name", "l0", "1");
        text("Texts: a number belongs to a name", "b9", "1");
        text("Texts: letters are small", "N00", "0");
        text("Texts: letters are small", "t,L", "2");
    }

    private static void separators() {
        text("Texts: lines are set apart by one comma", "t,b", "NONE");
        text("Texts: lines are set apart by one comma", "t,,b", "2");
        text("Texts: lines are set apart by one comma", "t.b", "1");
        text("Texts: lines are set apart by one comma", "tb", "1");
        text("Texts: a comma ahead of the first line", ",t", "0");
        text("Texts: a comma behind a number", "n0999,n7999", "NONE");
        text("Texts: a comma behind a cue", "t@30,t@1,n00@9,b", "NONE");
        text("Texts: a fault in the last line", "t@30,t@1,n00@9,x", "15");
        text("Texts: the first fault is told", "t,x,y", "2");
        text("Texts: the first fault is told", "x,t,n8", "0");
    }

    private static void endsTooEarly() {
        Run.due("Texts: the text is empty", "fault() = 0", "read() = BAD_TEXT");
        text("Texts: ends too early behind 'n'", "n", "1");
        text("Texts: ends too early behind a group", "n7", "2");
        text("Texts: ends too early behind '@'", "t@", "2");
        text("Texts: ends too early behind the '@' of a name", "n00@", "4");
        text("Texts: ends too early behind a comma", "t,", "2");
        text("Texts: ends too early behind a comma", "n0999@30,", "9");
        text("Texts: ends too early in a later line", "t,n", "3");
    }

    private static void longTexts() {
        text("Texts: 59 characters", THIRTY_LINES, "NONE");
        text("Texts: 60 characters that end too early", THIRTY_LINES + ",", "60");
        text("Texts: a fault at the last of 60 characters", THIRTY_LINES + "t", "59");
        text("Texts: 60 characters", "n0999@30,n0999@30,n0999@30,n0999@30,n0999@30,n0999@30,n01@30", "NONE");
        text("Texts: a number at the end of 60 characters", "n0999@30,n0999@30,n0999@30,n0999@30,n0999@30,n0999@30,n01000", "59");
        text("Texts: a speed at the end of 60 characters", "n0999@30,n0999@30,n0999@30,n0999@30,n0999@30,n0999@30,n01@31", "59");
        text("Texts: a name that ends too early at 60 characters", THIRTY_LINES.substring(0, 58) + "n7", "60");
    }

    /** Every text of the letters, up to LONGEST of them; only those go on that have no fault yet, or end too early. */
    private static void everyShortText() {
        List<String> texts = new ArrayList<>(List.of(""));
        for (int length = 0; length <= LONGEST; length++) {
            List<String> longer = new ArrayList<>();
            for (String text : texts) {
                CreditScroll x = new CreditScroll();
                Model model = new Model();
                Texts.write(x, text);
                model.pad = text;
                int fault = model.fault();
                Due.is("Texts: the fault of '" + text + "'", x.fault(), fault);
                Due.is("9: reading '" + text + "'", x.read(), model.read());
                if (fault == Model.NONE || fault == text.length()) {
                    for (int i = 0; i < LETTERS.length(); i++) {
                        longer.add(text + LETTERS.charAt(i));
                    }
                }
            }
            texts = longer;
        }
    }

    /** What can stand at the first place, and behind a whole line. */
    private static void everyCode() {
        for (char code = 33; code <= 126; code++) {
            if (code != '\'') {
                int first = code == 'n' ? 1 : "tlb".indexOf(code) >= 0 ? Model.NONE : 0;
                int second = code == ',' || code == '@' ? 2 : 1;
                CreditScroll x = new CreditScroll();
                Texts.write(x, "" + code);
                Due.is("Texts: '" + code + "' at the first place", x.fault(), first);
                CreditScroll y = new CreditScroll();
                Texts.write(y, "t" + code);
                Due.is("Texts: '" + code + "' behind a line", y.fault(), second);
            }
        }
    }

    private static void putCharacters() {
        Run.range("18: a code is 33 to 126", 33, 126, "BAD_VALUE", "put(#)");
        for (long code = 0; code <= 255; code++) {
            boolean good = code >= 33 && code <= 126;
            for (int place = 0; place < 8; place++) {
                CreditScroll x = new CreditScroll();
                long eight = Texts.code("tttttttt") & ~(255L << 8 * place) | code << 8 * place;
                boolean seven = place == 7 && code == 0;
                Due.is("18: code " + code + " at the place " + place + " of eight", x.put(eight),
                    good ? 8 : seven ? 7 : CreditScroll.BAD_VALUE);
                Due.is("18: length then", x.count(10), good ? 8 : seven ? 7 : 0);
            }
        }
        Run.due("18: 1 to 8 characters", "put('t') = 1", "put(',t') = 3", "put(',t,') = 6", "put('t,t,') = 10", "put('t,t,t') = 15",
            "put(',t,t,t') = 21", "put(',t,t,t,') = 28", "put('t,t,t,t,') = 36", "put('b') = 37", "fault() = NONE", "read() = 19",
            "of(18, 0) = BLANK", "of(17, 0) = TITLE");
    }

    private static void putOrder() {
        Run.due("18: the lowest 8 bits are the last character", "put(6433908) = 3", "fault() = NONE", "read() = 2", "of(0, 0) = BLANK",
            "of(1, 0) = TITLE");
        Run.due("18: appends", "put('n') = 1", "put('7') = 2", "put('12') = 4", "put('3@3') = 7", "put('0,b') = 10", "read() = 2",
            "of(0, 1) = 7", "of(0, 2) = 123", "of(0, 3) = 30", "of(1, 0) = BLANK");
        Run.due("18: eight characters in their order", "put('n7123@30') = 8", "read() = 1", "of(0, 1) = 7", "of(0, 2) = 123",
            "of(0, 3) = 30");
    }

    private static void putZeroBits() {
        Run.due("18: BAD_VALUE if there is no character", "put(0) = BAD_VALUE", "put('t') = 1", "put(0) = BAD_VALUE");
        for (int bit = 8; bit < 64; bit++) {
            Run.due("18: the bit " + bit + " above 8 bits that are 0", "put(" + (1L << bit) + ") = BAD_VALUE");
        }
        for (int bit = 16; bit < 64; bit++) {
            Run.due("18: the bit " + bit + " above a character and 8 bits that are 0", "put(" + ('t' | 1L << bit) + ") = BAD_VALUE");
        }
        Run.due("18: the first 8 bits are 0", "put(" + 0x7400L + ") = BAD_VALUE", "put(" + 0x7474747474747400L + ") = BAD_VALUE");
        Run.due("18: the last 8 bits but one are 0", "put(" + 0x7400747474747474L + ") = BAD_VALUE", "put(" + 0x74747474747474L
            + ") = 7", "wipe() = 7", "put(" + 0x7474747474747474L + ") = 8");
        Run.due("18: the ends of a number", "put(" + Long.MIN_VALUE + ") = BAD_VALUE", "put(" + Long.MAX_VALUE + ") = BAD_VALUE",
            "put(-1) = BAD_VALUE", "put(1) = BAD_VALUE");
    }

    private static void putTooMany() {
        Run.due("18: TOO_MANY if the pad would be longer than 60", Run.with(FULL_BUT_ONE, "put('tt') = TOO_MANY",
            "put('tttttttt') = TOO_MANY", "put('t') = 60", "put('t') = TOO_MANY", "put('tttttttt') = TOO_MANY", "fault() = 59",
            "wipe() = 60", "put('tttttttt') = 8"));
        for (int many = 1; many <= 8; many++) {
            String text = "bbbbbbbb".substring(0, many);
            Run.due("18: just 60 with " + many, "write('" + "t".repeat(60 - many) + "')", "put('" + text + "') = 60",
                "put('t') = TOO_MANY", "put('" + text + "') = TOO_MANY");
            Run.due("18: 61 with " + many, "write('" + "t".repeat(61 - many) + "')", "put('" + text + "') = TOO_MANY",
                "count(10) = " + (61 - many));
        }
    }

    private static void wipe() {
        Run.due("19: the length that it had, 0", "wipe() = 0", "wipe() = 0");
        Run.due("19: the length that it had, 1", "put('t') = 1", "wipe() = 1", "wipe() = 0");
        Run.due("19: the length that it had, 60", Run.with(FULL_BUT_ONE, "put(',') = 60", "wipe() = 60", "count(10) = 0", "fault() = 0",
            "read() = BAD_TEXT", "put('b') = 1", "read() = 1", "of(0, 0) = BLANK"));
        Run.due("19: is no change", "line(BLANK)", "put('t')", "wipe()", "count(11) = 1", "count(0) = 1", "undo() = 0",
            "count(10) = 0");
    }

    private static void fault() {
        Run.due("20: NONE if there is none", "put('t')", "fault() = NONE", "put(',')", "fault() = 2", "put('b')", "fault() = NONE");
        Run.due("20: too many lines are no fault", "40 x line(BLANK)", "put('t')", "fault() = NONE", "read() = TOO_MANY",
            "fault() = NONE");
        Run.due("20: what is appended behind a fault does not mend it", "put('tx')", "fault() = 1", "put(',t')", "fault() = 1");
        Run.due("20: the fault goes on with the text", "put('n')", "fault() = 1", "put('0')", "fault() = 2", "put('0')",
            "fault() = NONE", "put('0')", "fault() = 3");
    }
}
