/** The error position: each character at each place of an order, and all short texts. */
final class ErrorPositions {
    private static final String KINDS = "lqgnrw";
    private static final String DIGITS = "0123456789";
    private static final int TEXTS_OF_AN_OBJECT = 20;
    private static CheeseTwins object = new CheeseTwins();
    private static int texts = 0;

    private ErrorPositions() {
    }

    static void all() {
        endsTooEarly();
        eachCharacter();
        allShortTexts();
        longTexts();
    }

    /** The error position of a text; an object is used for so many texts that its calls do not become too many. */
    private static int positionOf(String text) {
        if (texts++ % TEXTS_OF_AN_OBJECT == 0) {
            object = new CheeseTwins();
        }
        Check.type(object, text);
        try {
            object.run();
        } catch (IllegalArgumentException | UnsupportedOperationException e) {
            // The text may have no error and cannot be carried out all the same.
        }
        return object.errorPosition();
    }

    private static void check(String text, int due) {
        Check.same("the error position of «" + text + "»", positionOf(text), due);
    }

    private static void endsTooEarly() {
        String[] texts = {"", "l", "l1", "l12", "l1:", "l12:", "q", "q1", "q1:", "g", "n", "r", "r0", "r0:", "w",
            "g0;", "w1;", "l1:2;", "l12:34;", "g0;g", "g0;l", "g0;r1:"};
        for (String text : texts) {
            check(text, text.length());
        }
        String[] ended = {"l1:2", "l12:3", "l1:23", "l12:34", "q1:2", "q12:34", "g0", "g12", "n0", "n12", "r0:1", "r12:34", "w0",
            "w9", "g0;w0", "l1:2;g0;q3:4"};
        for (String text : ended) {
            check(text, -1);
        }
    }

    /** What goes on behind a beginning, and what ends a text with it. */
    private static void eachCharacter() {
        behind("", KINDS, "");
        behind("l", DIGITS, "");
        behind("l1", DIGITS + ":", "");
        behind("l12", ":", "");
        behind("l1:", "", DIGITS);
        behind("l1:2", ";", DIGITS);
        behind("l1:23", ";", "");
        behind("q", DIGITS, "");
        behind("q1", DIGITS + ":", "");
        behind("q12:", "", DIGITS);
        behind("q12:3", ";", DIGITS);
        behind("r", DIGITS, "");
        behind("r1", DIGITS + ":", "");
        behind("r12:", "", DIGITS);
        behind("r12:34", ";", "");
        behind("g", "", DIGITS);
        behind("g1", ";", DIGITS);
        behind("g12", ";", "");
        behind("n", "", DIGITS);
        behind("n1", ";", DIGITS);
        behind("n12", ";", "");
        behind("w", "", DIGITS);
        behind("w1", ";", "");
        behind("w1;", KINDS, "");
        behind("l1:2;g0;", KINDS, "");
    }

    private static void behind(String begin, String goesOn, String ends) {
        for (int c = 0; c < 400; c++) {
            behind(begin, goesOn, ends, (char) c);
        }
        // Characters whose lower half is one that a text may have, and digits of other scripts.
        for (int high = 0x0200; high <= 0xff00; high += 0x0700) {
            for (char low : (KINDS + DIGITS + ":;").toCharArray()) {
                behind(begin, goesOn, ends, (char) (high + low));
            }
        }
        for (char other : new char[] {0x0660, 0x0669, 0x0966, 0xff10, 0xff19, 0xff4c, 0xff1a, 0xff1b, 0xffff}) {
            behind(begin, goesOn, ends, other);
        }
    }

    private static void behind(String begin, String goesOn, String ends, char c) {
        int due = begin.length();
        if (ends.indexOf(c) >= 0) {
            due = -1;
        } else if (goesOn.indexOf(c) >= 0) {
            due = begin.length() + 1;
        }
        check(begin + c, due);
    }

    private static void allShortTexts() {
        char[] signs = "lgw1:;x".toCharArray();
        int count = 1;
        for (int length = 1; length <= 5; length++) {
            count *= signs.length;
            for (int number = 0; number < count; number++) {
                StringBuilder text = new StringBuilder();
                for (int rest = number, i = 0; i < length; i++, rest /= signs.length) {
                    text.append(signs[rest % signs.length]);
                }
                check(text.toString(), Model.errorOf(text.toString()));
            }
        }
    }

    private static void longTexts() {
        check(BoundsOfTexts.TWENTY, -1);
        check(BoundsOfTexts.TWENTY + ";", 60);
        check(BoundsOfTexts.TWENTY + "x", 59);
        check(BoundsOfTexts.SIXTY, -1);
        check(BoundsOfTexts.SIXTY.substring(0, 58) + ":;", 58);
        check(BoundsOfTexts.SIXTY.substring(0, 59) + ";", 60);
        check(BoundsOfTexts.SIXTY.substring(0, 59) + "x", 59);
        check("x" + BoundsOfTexts.SIXTY.substring(1), 0);
        for (int at = 0; at < 60; at++) {
            String text = BoundsOfTexts.SIXTY.substring(0, at) + "x" + BoundsOfTexts.SIXTY.substring(at + 1);
            check(text, at);
        }
    }
}
