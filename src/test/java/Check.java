import java.util.NoSuchElementException;

/** What the tests share: counting wrong answers, calls that must throw, and a picture of an object's state. */
final class Check {
    interface Call {
        void make();
    }

    private static int wrong = 0;

    private Check() {
    }

    static void same(String what, Object got, Object due) {
        if (!got.equals(due)) {
            wrong++;
            System.out.println(what + " answered " + got + ", due is " + due);
        }
    }

    static void same(String what, int got, int due) {
        same(what, (Object) got, (Object) due);
    }

    /** The call must throw exactly this exception. */
    static void fails(String what, Class<? extends RuntimeException> due, Call call) {
        String got = "nothing";
        try {
            call.make();
        } catch (RuntimeException e) {
            got = e.getClass().getName();
        }
        same(what + " throws", got, due.getName());
    }

    /** The call must throw exactly this exception and leave the state, the line and the reason as they are. */
    static void failsIdle(String what, CheeseTwins x, Class<? extends RuntimeException> due, Call call) {
        String before = pictureOf(x) + signsOf(x) + reasonOf(x);
        fails(what, due, call);
        same(what + ": the state", pictureOf(x) + signsOf(x) + reasonOf(x), before);
    }

    /** The call must be refused for this reason, and leave the state as it is. */
    static void refused(String what, CheeseTwins x, int reason, int detail, Call call) {
        String before = pictureOf(x) + signsOf(x);
        fails(what, UnsupportedOperationException.class, call);
        same(what + ": the state", pictureOf(x) + signsOf(x), before);
        same(what + ": the reason", x.refusal(false), reason);
        same(what + ": the detail", x.refusal(true), detail);
    }

    /** All that changes can change, and the accounts. */
    static String pictureOf(CheeseTwins x) {
        StringBuilder picture = new StringBuilder();
        for (int what = 0; what <= 10; what++) {
            picture.append(x.account(what)).append(' ');
        }
        for (int loan = 0; loan < x.account(0); loan++) {
            picture.append("| ");
            for (int what = 0; what <= 4; what++) {
                picture.append(x.loanOf(loan, what)).append(' ');
            }
        }
        for (int place = 0; place < x.account(4); place++) {
            picture.append("? ").append(x.waitingOf(place, 0)).append(':').append(x.waitingOf(place, 1)).append(' ');
        }
        for (int unit = 0; unit < 64; unit += x.pieceOf(unit, 0)) {
            picture.append("/ ").append(x.pieceOf(unit, 0)).append(' ').append(x.pieceOf(unit, 2)).append(' ');
        }
        return picture.append(x.isWell() ? "well " : "ill ").toString();
    }

    /** The characters of the line as it was written last. */
    static String signsOf(CheeseTwins x) {
        StringBuilder signs = new StringBuilder();
        try {
            for (int i = 0; i < 1000; i++) {
                signs.append(x.character(i));
            }
        } catch (IndexOutOfBoundsException e) {
            return signs.toString();
        }
        return "endless";
    }

    static String lineOf(CheeseTwins x) {
        int length = x.line();
        String signs = signsOf(x);
        same("the length of " + signs, length, signs.length());
        return signs;
    }

    static String mapOf(CheeseTwins x) {
        int length = x.map();
        String signs = signsOf(x);
        same("the length of " + signs, length, signs.length());
        return signs;
    }

    static String reasonOf(CheeseTwins x) {
        try {
            return x.refusal(false) + "," + x.refusal(true);
        } catch (NoSuchElementException e) {
            return "none";
        }
    }

    static void type(CheeseTwins x, String text) {
        for (int i = 0; i < text.length(); i++) {
            x.append(text.charAt(i));
        }
    }

    /** An object on which a text of any length has been carried out order by order. */
    static CheeseTwins after(String text) {
        CheeseTwins x = new CheeseTwins();
        for (String order : text.split(";")) {
            type(x, order);
            x.run();
        }
        return x;
    }

    static void end() {
        System.out.println(wrong == 0 ? "all answers are as due" : wrong + " answers are not as due");
        if (wrong != 0) {
            System.exit(1);
        }
    }
}
