/** Writes texts on a pad, as many characters a call as put takes. */
final class Texts {
    private Texts() {
    }

    static long code(String text) {
        long code = 0;
        for (int i = 0; i < text.length(); i++) {
            code = code << 8 | text.charAt(i);
        }
        return code;
    }

    static void write(CreditScroll x, String text) {
        for (int i = 0; i < text.length(); i += 8) {
            x.put(code(text.substring(i, Math.min(text.length(), i + 8))));
        }
    }
}
