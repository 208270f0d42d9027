import java.util.NoSuchElementException;
import java.util.function.Supplier;

/** What the tests share: counting wrong answers, calls that must throw, and a picture of an object's state. */
final class Check {
    interface Call {
        void make();
    }

    interface Use {
        void on(CheeseTwins x);
    }

    interface NumberUse {
        void on(CheeseTwins x, int number);
    }

    private static int asked = 0;
    private static int wrong = 0;

    private Check() {
    }

    static int countAsked() {
        return asked;
    }

    static int countWrong() {
        return wrong;
    }

    static void same(String what, Object got, Object due) {
        asked++;
        if (!got.equals(due)) {
            wrong++;
            System.out.println(what + " answered " + got + ", due is " + due);
        }
    }

    static void same(String what, int got, int due) {
        same(what, (Object) got, (Object) due);
    }

    /** The call must throw exactly this exception. */
    static void fails(String what, Class<? extends RuntimeException> due, Call call) {
        String got = "nothing";
        try {
            call.make();
        } catch (RuntimeException e) {
            got = e.getClass().getName();
        }
        same(what + " throws", got, due.getName());
    }

    /** The call must throw exactly this exception and leave the state, the line and the reason as they are. */
    static void failsIdle(String what, CheeseTwins x, Class<? extends RuntimeException> due, Call call) {
        String before = pictureOf(x) + signsOf(x) + reasonOf(x);
        fails(what, due, call);
        same(what + ": the state", pictureOf(x) + signsOf(x) + reasonOf(x), before);
    }

    /** The call must be refused for this reason, and leave the state as it is. */
    static void refused(String what, CheeseTwins x, int reason, int detail, Call call) {
        String before = pictureOf(x) + signsOf(x);
        fails(what, UnsupportedOperationException.class, call);
        same(what + ": the state", pictureOf(x) + signsOf(x), before);
        same(what + ": the reason", x.refusal(false), reason);
        same(what + ": the detail", x.refusal(true), detail);
    }

    /**
     * An object on which each order has been carried out, with all that is no part of the board, too: a snapshot of the
     * new board, a map as its line, the error position 1, a refusal for reason 4 with the detail 0, and an input.
     */
    static CheeseTwins prepared(String orders, String input) {
        CheeseTwins x = new CheeseTwins();
        x.save();
        carryOut(x, orders);
        x.map();
        type(x, "w");
        fails("a text that ends too early", IllegalArgumentException.class, x::run);
        fails("giveAll(98)", UnsupportedOperationException.class, () -> x.giveAll(98));
        type(x, input);
        return x;
    }

    /** The call must throw exactly this exception, and change nothing that can be seen, now or behind undo and restore. */
    static void idle(String what, String orders, Class<? extends RuntimeException> due, Use use) {
        idleWithInput(what, orders, "l97:1", due, use);
    }

    static void idleWithInput(String what, String orders, String input, Class<? extends RuntimeException> due, Use use) {
        CheeseTwins x = prepared(orders, input);
        fails(what, due, () -> use.on(x));
        same(what + ": the reason", reasonOf(x), "4,0");
        same(what + ": the error position", x.errorPosition(), 1);
        same(what + ": the state", everythingOf(x), everythingOf(prepared(orders, input)));
    }

    /** The call must be refused for this reason, and change nothing else, now or behind undo and restore. */
    static void idleRefusal(String what, String orders, int reason, int detail, Use use) {
        CheeseTwins x = prepared(orders, "l97:1");
        fails(what, UnsupportedOperationException.class, () -> use.on(x));
        same(what + ": the reason", reasonOf(x), reason + "," + detail);
        same(what + ": the error position", x.errorPosition(), 1);
        same(what + ": the state", everythingOf(x), everythingOf(prepared(orders, "l97:1")));
    }

    /** The text must be refused for this reason, have no error, and change nothing else but the input. */
    static void refusedRun(String orders, String text, int reason, int detail) {
        CheeseTwins x = prepared(orders, text);
        fails("run of " + text, UnsupportedOperationException.class, x::run);
        same("the reason of " + text, reasonOf(x), reason + "," + detail);
        checkIdleRun(x, orders, text, -1);
    }

    /** The text must fail, with this error position, or -1, and change nothing else but the input. */
    static void failedRun(String orders, String text, int position) {
        CheeseTwins x = prepared(orders, text);
        fails("run of " + text, IllegalArgumentException.class, x::run);
        same("the reason behind " + text, reasonOf(x), "4,0");
        checkIdleRun(x, orders, text, position);
    }

    private static void checkIdleRun(CheeseTwins x, String orders, String text, int position) {
        same("the error position of " + text, x.errorPosition(), position);
        same("the state behind " + text, everythingOf(x), everythingOf(prepared(orders, "")));
    }

    /** The numbers from the least to the greatest are taken; those beyond throw this exception and change nothing. */
    static void range(String what, String orders, int least, int greatest, Class<? extends RuntimeException> due, NumberUse use) {
        for (int taken = least; taken <= greatest; taken++) {
            takes(what, orders, taken, use);
        }
        int[] beyond = {least - 1, greatest + 1, least - 2, greatest + 2, least - 64, greatest + 64, Integer.MIN_VALUE,
            Integer.MIN_VALUE + 1, Integer.MAX_VALUE, Integer.MAX_VALUE - 1, 1 << 16, -(1 << 16)};
        for (int number : beyond) {
            idle(what + " with " + number, orders, due, x -> use.on(x, number));
        }
    }

    static void takes(String what, String orders, int number, NumberUse use) {
        CheeseTwins x = after(orders);
        String got = "nothing";
        try {
            use.on(x, number);
        } catch (RuntimeException e) {
            got = e.getClass().getName();
        }
        same(what + " with " + number + " throws", got, "nothing");
    }

    /** All that can be seen of an object but its reason and its error position; the object is used up by it. */
    static String everythingOf(CheeseTwins x) {
        StringBuilder all = new StringBuilder(pictureOf(x));
        all.append(signsOf(x));
        while (x.account(10) > 0) {
            all.append("\nundo ").append(x.undo()).append(' ').append(pictureOf(x));
        }
        all.append("\nrestore ").append(answerOf(x::restore)).append(' ').append(pictureOf(x));
        all.append("\nrun ").append(answerOf(x::run)).append(' ').append(pictureOf(x));
        return all.toString();
    }

    private static String answerOf(Supplier<Integer> call) {
        try {
            return call.get().toString();
        } catch (RuntimeException e) {
            return e.getClass().getName();
        }
    }

    /** All that changes can change, and the accounts. */
    static String pictureOf(CheeseTwins x) {
        StringBuilder picture = new StringBuilder();
        for (int what = 0; what <= 10; what++) {
            picture.append(x.account(what)).append(' ');
        }
        for (int loan = 0; loan < x.account(0); loan++) {
            picture.append("| ");
            for (int what = 0; what <= 4; what++) {
                picture.append(x.loanOf(loan, what)).append(' ');
            }
        }
        for (int place = 0; place < x.account(4); place++) {
            picture.append("? ").append(x.waitingOf(place, 0)).append(':').append(x.waitingOf(place, 1)).append(' ');
        }
        for (int unit = 0; unit < 64; unit += x.pieceOf(unit, 0)) {
            picture.append("/ ").append(x.pieceOf(unit, 0)).append(' ').append(x.pieceOf(unit, 2)).append(' ');
        }
        return picture.append(x.isWell() ? "well " : "ill ").toString();
    }

    /** The picture without the number of changes that can be undone. */
    static String boardOf(CheeseTwins x) {
        String[] numbers = pictureOf(x).split(" ", 12);
        numbers[10] = "";
        return String.join(" ", numbers);
    }

    /** The characters of the line as it was written last. */
    static String signsOf(CheeseTwins x) {
        StringBuilder signs = new StringBuilder();
        try {
            for (int i = 0; i < 1000; i++) {
                signs.append(x.character(i));
            }
        } catch (IndexOutOfBoundsException e) {
            return signs.toString();
        }
        return "endless";
    }

    static String lineOf(CheeseTwins x) {
        int length = x.line();
        String signs = signsOf(x);
        same("the length of " + signs, length, signs.length());
        return signs;
    }

    static String mapOf(CheeseTwins x) {
        int length = x.map();
        String signs = signsOf(x);
        same("the length of " + signs, length, signs.length());
        return signs;
    }

    static String reasonOf(CheeseTwins x) {
        try {
            return x.refusal(false) + "," + x.refusal(true);
        } catch (NoSuchElementException e) {
            return "none";
        }
    }

    static void type(CheeseTwins x, String text) {
        for (int i = 0; i < text.length(); i++) {
            x.append(text.charAt(i));
        }
    }

    /** An object on which a text of any length has been carried out order by order. */
    static CheeseTwins after(String text) {
        CheeseTwins x = new CheeseTwins();
        carryOut(x, text);
        return x;
    }

    /** Carries out a text of any length, which may be empty, order by order. */
    static void carryOut(CheeseTwins x, String text) {
        for (int from = 0; from < text.length(); ) {
            int semicolon = text.indexOf(';', from);
            int end = semicolon < 0 ? text.length() : semicolon;
            type(x, text.substring(from, end));
            x.run();
            from = end + 1;
        }
    }

    static void end() {
        System.out.println(wrong == 0 ? "all answers are as due" : wrong + " answers are not as due");
        if (wrong != 0) {
            System.exit(1);
        }
    }
}
