import java.util.NoSuchElementException;

/** Promises 21 to 31: lines, texts, reasons, accounts and shares. */
public final class TextsTest {
    private static final Class<IllegalArgumentException> VALUE = IllegalArgumentException.class;
    private static final Class<IndexOutOfBoundsException> INDEX = IndexOutOfBoundsException.class;

    private TextsTest() {
    }

    public static void main(String[] args) {
        lineAndMap();
        character();
        append();
        runEachOrder();
        runErrors();
        runFailures();
        runKeepsNothing();
        errorPosition();
        refusal();
        account();
        isWell();
        meanWaste();
        lentShare();
        Check.end();
    }

    private static void lineAndMap() {
        CheeseTwins x = new CheeseTwins();
        Check.same("line of the board", Check.lineOf(x), "64.");
        Check.same("map of the board", Check.mapOf(x), ".".repeat(64));
        x.lend(1, 3);
        x.lend(2, 16);
        x.lend(3, 8);
        Check.same("line stays", Check.signsOf(x), ".".repeat(64));
        Check.same("line", Check.lineOf(x), "4=0 4. 8=2 16=1 32.");
        Check.same("map", Check.mapOf(x), "aaaa....ccccccccbbbbbbbbbbbbbbbb" + ".".repeat(32));
        for (int i = 0; i < 13; i++) {
            x.lend(4, 1);
        }
        Check.same("line of 16", Check.lineOf(x),
                "4=0 1=3 1=4 1=5 1=6 8=2 16=1 1=7 1=8 1=9 1=10 1=11 1=12 1=13 1=14 1=15 1. 2. 4. 16.");
        Check.same("map of 16", Check.mapOf(x), "aaaadefgccccccccbbbbbbbbbbbbbbbbhijklmnop" + ".".repeat(23));
        Check.same("line of the lent board", Check.lineOf(Check.after("l1:64")), "64=0");
    }

    private static void character() {
        CheeseTwins x = new CheeseTwins();
        Check.failsIdle("character(0) at first", x, INDEX, () -> x.character(0));
        x.line();
        Check.same("character(0)", (int) x.character(0), (int) '6');
        Check.same("character(2)", (int) x.character(2), (int) '.');
        Check.failsIdle("character(3)", x, INDEX, () -> x.character(3));
        Check.failsIdle("character(-1)", x, INDEX, () -> x.character(-1));
        x.map();
        Check.failsIdle("character(64)", x, INDEX, () -> x.character(64));
        x.line();
        Check.failsIdle("character(3) behind a shorter line", x, INDEX, () -> x.character(3));
    }

    private static void append() {
        CheeseTwins x = new CheeseTwins();
        char[] signs = {0, 'l', 255, 300, 0xffff};
        for (int i = 0; i < 60; i++) {
            Check.same("append", x.append(signs[i % signs.length]), i + 1);
        }
        Check.failsIdle("append of one more", x, IllegalStateException.class, () -> x.append('l'));
        Check.same("append: account", x.account(9), 60);
        Check.fails("run", VALUE, x::run);
        Check.same("append after run", x.append('l'), 1);
    }

    private static void runEachOrder() {
        CheeseTwins x = new CheeseTwins();
        Check.same("run", run(x, "l07:05;l42:32;q3:33;q04:1"), 4);
        Check.same("run: state", Check.pictureOf(x), "3 38 41 4 1 3 6 0 0 0 1 | 7 5 0 8 3 | 42 32 32 32 0 | 4 1 8 1 0 "
                + "? 3:33 / 8 0 / 1 2 / 1 -1 / 2 -1 / 4 -1 / 16 -1 / 32 1 well ");
        Check.same("run: error position", x.errorPosition(), -1);
        Check.same("run", run(x, "w1;r0:1;g01;n4"), 4);
        Check.same("run: state", Check.pictureOf(x), "1 1 1 6 1 0 9 3 1 0 2 | 7 1 7 1 0 ? 3:33 "
                + "/ 4 -1 / 2 -1 / 1 -1 / 1 0 / 8 -1 / 16 -1 / 32 -1 well ");
        Check.same("run: those who wait, behind each order", run(x, "g0;l1:32"), -2);
        Check.same("run: the same, in two", run(x, "g0"), 1);
        Check.same("run: who is lent to", x.loanOf(0, 0), 3);
        Check.same("run: two digits", run(new CheeseTwins(), "l00:64;n00"), 2);
        String most = "w1;w2;w0;".repeat(6) + "w1;w2";
        Check.same("run: 20 orders", run(new CheeseTwins(), most), 20);
        CheeseTwins longest = new CheeseTwins();
        Check.same("run: 60 characters", run(longest, most.substring(0, 54) + "l12:04"), 19);
        Check.same("run: the last of 60 characters", longest.loanOf(0, 1), 4);
    }

    /** Returns the number of orders, -1 for IllegalArgumentException, -2 for UnsupportedOperationException. */
    private static int run(CheeseTwins x, String text) {
        Check.type(x, text);
        int answer = 0;
        try {
            answer = x.run();
        } catch (IllegalArgumentException e) {
            answer = -1;
        } catch (UnsupportedOperationException e) {
            answer = -2;
        }
        Check.same("the input behind " + text, x.account(9), 0);
        return answer;
    }

    private static void runErrors() {
        String[] texts = {"", ";", "l", "l:", "l1", "l1;", "l1:", "l1:;", "l123:4", "l1:2;", "l1:23;x", "l1:234", "l1:2 ",
            "q", "qx", "q12:", "q12:1:", "g", "g;", "g12", "g123", "g1:1", "n", "n1:1", "n100", "r", "r1", "r1;", "r1:x",
            "w", "w;", "w10", "w1:1", "W1", " w1", "w1;;w2", "w1;w2;w", "w1; w2", "l-1:2", "l1:-2", "w1\u0130", "\u0000"};
        int[] due = {0, 0, 1, 1, 2, 2, 3, 3, 3, 5, 6, 5, 4,
            1, 1, 4, 5, 1, 1, -1, 3, 2, 1, 2, 3, 1, 2, 2, 3,
            1, 1, 2, 2, 0, 0, 3, 7, 3, 1, 3, 2, 0};
        for (int i = 0; i < texts.length; i++) {
            CheeseTwins x = new CheeseTwins();
            String before = Check.pictureOf(x) + Check.reasonOf(x);
            Check.same("run of «" + texts[i] + "»", run(x, texts[i]), -1);
            Check.same("error position of «" + texts[i] + "»", x.errorPosition(), due[i]);
            Check.same("state behind «" + texts[i] + "»", Check.pictureOf(x) + Check.reasonOf(x), before);
        }
        CheeseTwins longest = new CheeseTwins();
        Check.same("run", run(longest, "w1;w2;w0;".repeat(6) + "l12:4;"), -1);
        Check.same("error position at 60", longest.errorPosition(), 60);
        Check.same("run: 20 orders and a semicolon", run(longest, "w1;w2;w0;".repeat(6) + "w1;w2;"), -1);
        Check.same("error position at 60", longest.errorPosition(), 60);
    }

    private static void runFailures() {
        CheeseTwins x = Check.after("l1:32;l2:32;q3:1");
        String[] wrong = {"l1:0", "l1:00", "l1:65", "q1:0", "q1:99", "g2", "g99", "r2:1", "r2:0", "r0:0", "r0:65", "w3", "w9",
            "w1;g2", "w1;l1:0"};
        for (String text : wrong) {
            String before = Check.pictureOf(x);
            Check.same("run of " + text, run(x, text), -1);
            Check.same("error position of " + text, x.errorPosition(), -1);
            Check.same("state behind " + text, Check.pictureOf(x) + Check.reasonOf(x), before + "none");
        }
        refusedRun(x, "l1:1", 2, 0);
        refusedRun(x, "n9", 4, 0);
        refusedRun(x, "n3", 4, 1);
        refusedRun(x, "r0:32", 5, 32);
        refusedRun(x, "r0:33", 2, 32);
        refusedRun(x, "w0", 5, 0);
        refusedRun(x, "w2;w2", 5, 2);
        refusedRun(x, "q1:1;q1:1;q1:1;q1:1;q1:1;q1:1", 3, 6);
        refusedRun(x, "g0;l1:17", 2, 16);
        refusedRun(x, "g0;l1:17;l1:0", 2, 16);
        Check.same("run: an earlier refusal stays", run(x, "g0;l1:0;l1:17"), -1);
        Check.same("run: an earlier refusal stays", Check.reasonOf(x), "2,16");
        Check.same("run: an error is found ahead of a refusal", run(x, "w0;x"), -1);
        Check.same("run: an earlier refusal stays", Check.reasonOf(x), "2,16");
        CheeseTwins many = Check.after("l1:1;l1:1;l1:1;l1:1;l1:1;l1:1;l1:1;l1:1");
        refusedRun(many, "l1:1;l1:1;l1:1;l1:1;l1:1;l1:1;l1:1;l1:1;l1:1", 1, 16);
    }

    private static void refusedRun(CheeseTwins x, String text, int reason, int detail) {
        String before = Check.pictureOf(x);
        Check.same("run of " + text, run(x, text), -2);
        Check.same("error position of " + text, x.errorPosition(), -1);
        Check.same("state behind " + text, Check.pictureOf(x), before);
        Check.same("reason of " + text, Check.reasonOf(x), reason + "," + detail);
    }

    private static void runKeepsNothing() {
        CheeseTwins x = Check.after("l1:10;l2:20;q3:30;q4:40;w1");
        x.line();
        String before = Check.pictureOf(x) + Check.signsOf(x);
        Check.same("run", run(x, "l5:1;n1;w2;g0;q6:64;r0:2;l7:3;g9"), -1);
        Check.same("run: nothing is kept", Check.pictureOf(x) + Check.signsOf(x), before);
        Check.same("run", run(x, "l5:1;n1;w2;g0;q6:64;r0:2;l7:3;w2"), -2);
        Check.same("run: nothing is kept", Check.pictureOf(x) + Check.signsOf(x), before);
        x.undo();
        Check.same("undo behind a run that failed", x.account(8), 0);
    }

    private static void errorPosition() {
        CheeseTwins x = new CheeseTwins();
        Check.same("error position at first", x.errorPosition(), -1);
        run(x, "w");
        Check.same("error position", x.errorPosition(), 1);
        x.lend(1, 1);
        x.undo();
        x.save();
        x.restore();
        Check.same("error position stays", x.errorPosition(), 1);
        run(x, "w1");
        Check.same("error position of a text without one", x.errorPosition(), -1);
    }

    private static void refusal() {
        CheeseTwins x = new CheeseTwins();
        Check.failsIdle("refusal(false)", x, NoSuchElementException.class, () -> x.refusal(false));
        Check.failsIdle("refusal(true)", x, NoSuchElementException.class, () -> x.refusal(true));
        x.save();
        x.lend(1, 64);
        Check.refused("lend(1, 1)", x, 2, 0, () -> x.lend(1, 1));
        Check.fails("lend(1, 0)", VALUE, () -> x.lend(1, 0));
        x.undo();
        Check.same("refusal behind undo", Check.reasonOf(x), "2,0");
        x.restore();
        Check.same("refusal behind restore", Check.reasonOf(x), "2,0");
        Check.refused("way(0)", x, 5, 0, () -> x.way(0));
    }

    private static void account() {
        CheeseTwins x = Check.after("l1:5;l2:12;l1:1;q5:40;g2;w2");
        Check.type(x, "abc");
        int[] due = {2, 17, 24, 2, 1, 7, 6, 3, 2, 3, 6};
        for (int what = 0; what < due.length; what++) {
            Check.same("account(" + what + ")", x.account(what), due[what]);
        }
        Check.failsIdle("account(11)", x, VALUE, () -> x.account(11));
        Check.failsIdle("account(-1)", x, VALUE, () -> x.account(-1));
    }

    private static void isWell() {
        Check.same("isWell", new CheeseTwins().isWell(), true);
        Check.same("isWell", Check.after("l1:64;q1:1;q2:64").isWell(), true);
        CheeseTwins sixteen = Check.after("l1:1;l1:1;l1:1;l1:1;l1:1;l1:1;l1:1;l1:1;l1:1;l1:1;l1:1;l1:1;l1:1;l1:1;l1:1;l1:1;q2:1");
        Check.same("isWell with 16 loans, and one who waits", sixteen.isWell(), true);
    }

    private static void meanWaste() {
        CheeseTwins x = new CheeseTwins();
        Check.failsIdle("meanWaste", x, ArithmeticException.class, x::meanWaste);
        x.lend(1, 5);
        Check.same("meanWaste", x.meanWaste(), 3.0);
        x.lend(2, 8);
        x.lend(2, 15);
        Check.same("meanWaste", x.meanWaste(), 4.0 / 3.0);
        x.give(0);
        x.give(0);
        x.give(0);
        Check.failsIdle("meanWaste", x, ArithmeticException.class, x::meanWaste);
    }

    private static void lentShare() {
        Check.same("lentShare", new CheeseTwins().lentShare(), 0.0f);
        Check.same("lentShare", Check.after("l1:5;l2:1").lentShare(), 9.0f / 64.0f);
        Check.same("lentShare", Check.after("l1:33").lentShare(), 1.0f);
    }
}
