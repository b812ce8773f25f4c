/** Promises 18 to 20: the pad. */
public final class TextsTest {
    public static void main(String[] args) {
        put();
        putErrors();
        putTooMany();
        wipe();
        faults();
        faultsOfWholeTexts();
        notAChange();
        Due.end("TextsTest");
    }

    private static void put() {
        CreditScroll x = new CreditScroll();
        Due.is("18: one", x.put('t'), 1);
        Due.is("18: order", x.put(Texts.code(",n7")), 4);
        Due.is("18: eight", x.put(Texts.code("12,l@30,")), 12);
        Due.is("18: one more", x.put('b'), 13);
        Due.is("18: fault", x.fault(), CreditScroll.NONE);
        x.read();
        Due.is("18: first", x.of(0, 0), CreditScroll.TITLE);
        Due.is("18: second", x.of(1, 2), 12);
        Due.is("18: its group", x.of(1, 1), 7);
        Due.is("18: third", x.of(2, 3), 30);
        Due.is("18: last", x.of(3, 0), CreditScroll.BLANK);
        Due.is("18: least code", x.put(33), 1);
        Due.is("18: greatest code", x.put(126), 2);
        Due.is("18: eight greatest", x.put(Texts.code("~~~~~~~~")), 10);
        Due.is("18: eight least", x.put(Texts.code("!!!!!!!!")), 18);
    }

    private static void putErrors() {
        CreditScroll x = new CreditScroll();
        long[] bad = {0, 32, 127, 128, 255, 256, -1, Long.MIN_VALUE, Long.MAX_VALUE, 0x7400L, 0x740074L,
            0x7400000000000000L, 0x7400000000000074L, 0x2074L, 0x7420L, 0x7F74L, 0x747FL, 0x8074747474747474L,
            0xF474747474747474L, 0x7474747474747420L, 0x2074747474747474L, 0x100000074L};
        for (long characters : bad) {
            Due.is("18: put(" + characters + ")", x.put(characters), CreditScroll.BAD_VALUE);
        }
        Due.is("18: pad stays empty", x.count(10), 0);
        for (int code = 33; code <= 60; code++) {
            Due.is("18: code " + code, x.put(code), code - 32);
        }
    }

    private static void putTooMany() {
        CreditScroll x = new CreditScroll();
        for (int i = 1; i <= 7; i++) {
            Due.is("18: length", x.put(Texts.code("n0123@12")), 8 * i);
        }
        Due.is("18: 64", x.put(Texts.code("12345678")), CreditScroll.TOO_MANY);
        Due.is("18: 61", x.put(Texts.code("12345")), CreditScroll.TOO_MANY);
        Due.is("18: value first", x.put(Texts.code("12345678") & ~255L), CreditScroll.BAD_VALUE);
        Due.is("18: 60", x.put(Texts.code("1234")), 60);
        Due.is("18: full", x.put('t'), CreditScroll.TOO_MANY);
        Due.is("18: still 60", x.count(10), 60);
        Due.is("18: bad when full", x.put(0), CreditScroll.BAD_VALUE);
    }

    private static void wipe() {
        CreditScroll x = new CreditScroll();
        Due.is("19: empty", x.wipe(), 0);
        Texts.write(x, "t,t,t,b,l,n");
        Due.is("19: eleven", x.wipe(), 11);
        Due.is("19: empty then", x.count(10), 0);
        Due.is("19: again", x.wipe(), 0);
        x.put('t');
        Due.is("19: nothing came back", x.read(), 1);
    }

    private static void faults() {
        Object[][] due = {
            {"", 0}, {"x", 0}, {"T", 0}, {",", 0}, {"@", 0}, {"0", 0}, {"@1", 0},
            {"t", -6}, {"l", -6}, {"b", -6}, {"n", 1}, {"tt", 1}, {"t1", 1}, {"t,", 2}, {"t,,", 2}, {"t@", 2},
            {"n0", 2}, {"n8", 1}, {"n9", 1}, {"n,", 1}, {"n@", 1}, {"nn", 1}, {"n0,", 2}, {"n0@", 2}, {"n7x", 2},
            {"n00", -6}, {"n70", -6}, {"n01", -6}, {"n000", 3}, {"n001", 3}, {"n010", -6}, {"n0100", -6}, {"n0999", -6},
            {"n01000", 5}, {"n09999", 5}, {"n0999,", 6}, {"n0999@", 6}, {"n0999x", 5}, {"n0999@1", -6}, {"n00@30", -6},
            {"t@0", 2}, {"t@1", -6}, {"t@9", -6}, {"t@10", -6}, {"t@19", -6}, {"t@29", -6}, {"t@30", -6}, {"t@31", 3},
            {"t@39", 3}, {"t@40", 3}, {"t@90", 3}, {"t@100", 4}, {"t@300", 4}, {"t@01", 2}, {"t@,", 2}, {"t@x", 2},
            {"t@@", 2}, {"t@3@", 3}, {"t@3@3", 3}, {"t@30@", 4}, {"t@3,", 4}, {"t@3t", 3}, {"t,n", 3}, {"t,b,l", -6},
            {"t.b", 1}, {"t,b,l,x", 6}, {"b/", 1}, {"b:", 1}, {"n:1", 1}, {"n/1", 1}, {"n0:", 2}, {"n0/", 2}};
        for (Object[] row : due) {
            Due.is("20: fault of '" + row[0] + "'", faultOf((String) row[0]), (Integer) row[1]);
        }
    }

    private static int faultOf(String text) {
        CreditScroll x = new CreditScroll();
        Texts.write(x, text);
        int fault = x.fault();
        Due.is("20: length of '" + text + "'", x.count(10), text.length());
        Due.is("9: read of '" + text + "' fails with a fault", x.read() == CreditScroll.BAD_TEXT ? 1 : 0,
            fault == CreditScroll.NONE ? 0 : 1);
        return fault;
    }

    private static void faultsOfWholeTexts() {
        String thirty = "t,t,t,t,t,t,t,t,t,t,t,t,t,t,t,t,t,t,t,t,t,t,t,t,t,t,t,t,t,t";
        Due.is("20: 59 characters", faultOf(thirty), CreditScroll.NONE);
        Due.is("20: 60 characters", faultOf(thirty + ","), 60);
        Due.is("20: the last is bad", faultOf(thirty + "t"), 59);
        Due.is("20: long lines", faultOf("n0999@30,n7999@30,n6100@10,n5101@11,n4200@20,n3300@29,n20@1"), CreditScroll.NONE);
        CreditScroll x = new CreditScroll();
        for (int i = 0; i < 40; i++) {
            x.line(3);
        }
        x.put('t');
        Due.is("20: 40 lines are no fault", x.fault(), CreditScroll.NONE);
    }

    private static void notAChange() {
        CreditScroll x = new CreditScroll();
        x.line(1);
        x.put('t');
        x.fault();
        x.wipe();
        x.put('b');
        Due.is("18 to 20: no change", x.count(11), 1);
        Due.is("18 to 20: lines stay", x.count(0), 1);
        x.undo();
        Due.is("18 to 20: the pad is not undone", x.count(10), 1);
    }
}
