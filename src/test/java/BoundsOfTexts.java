import java.util.NoSuchElementException;

/** The terms of lines, texts, reasons, undo and exceptions. */
final class BoundsOfTexts {
    private static final Class<IllegalArgumentException> VALUE = IllegalArgumentException.class;
    private static final Class<IndexOutOfBoundsException> INDEX = IndexOutOfBoundsException.class;
    private static final Class<NoSuchElementException> ELEMENT = NoSuchElementException.class;
    private static final Class<IllegalStateException> STATE = IllegalStateException.class;
    private static final String SIXTEEN_OF_1 = BoundsOfTerms.SIXTEEN_OF_1;
    private static final String SIXTEEN_OF_4 = BoundsOfTerms.SIXTEEN_OF_4;
    private static final String SIX_WAIT = BoundsOfTerms.SIX_WAIT;
    // 20 orders, which need 59 characters; and 19 orders, which need all of the 60.
    static final String TWENTY = "w1;w2;w0;w1;w2;w0;w1;w2;w0;w1;w2;w0;w1;w2;w0;w1;w2;w0;w1;w2";
    static final String SIXTY = "w1;w2;w0;w1;w2;w0;w1;w2;w0;w1;w2;w0;w1;w2;w0;w1;w2;w0;l10:64";
    // Nine changes, one of each kind and lend twice, and the way behind them is 1.
    private static final String[] NINE = {"l1:5", "l2:20", "q3:33", "r0:9", "w1", "q4:1", "n2", "g0", "l6:2;l6:3;g0"};

    private BoundsOfTexts() {
    }

    static void all() {
        lines();
        texts();
        reasons();
        undo();
        exceptions();
    }

    private static void lines() {
        Sentences.test(0, "The line of pieces has them in the order of their units, with a blank between two: the size, "
            + "and \".\" if it is free, or \"=\" and the number of the loan; as in \"4=0 4. 8. 16=1 32.\".", () -> {
                Check.same("the example", Check.lineOf(Check.after("l1:4;l2:16")), "4=0 4. 8. 16=1 32.");
                Check.same("one free piece", Check.lineOf(new CheeseTwins()), "64.");
                Check.same("one lent piece", Check.lineOf(Check.after("l1:33")), "64=0");
                Check.same("by units, not by loans", Check.lineOf(Check.after("w1;l1:32;l2:32")), "32=1 32=0");
                Check.same("numbers of two digits", Check.lineOf(Check.after(SIXTEEN_OF_1)),
                    "1=0 1=1 1=2 1=3 1=4 1=5 1=6 1=7 1=8 1=9 1=10 1=11 1=12 1=13 1=14 1=15 16. 32.");
                Check.same("a full board", Check.lineOf(Check.after(SIXTEEN_OF_4)),
                    "4=0 4=1 4=2 4=3 4=4 4=5 4=6 4=7 4=8 4=9 4=10 4=11 4=12 4=13 4=14 4=15");
            });
        Sentences.test(0, "The map has a character for each unit: \".\" if its piece is free, and else a letter for the "
            + "loan, a to p.", () -> {
                Check.same("nothing is lent", Check.mapOf(new CheeseTwins()), ".".repeat(64));
                Check.same("all is lent", Check.mapOf(Check.after("l1:33")), "a".repeat(64));
                Check.same("sixteen loans", Check.mapOf(Check.after(SIXTEEN_OF_1)), "abcdefghijklmnop" + ".".repeat(48));
                Check.same("a full board", Check.mapOf(Check.after(SIXTEEN_OF_4)),
                    "aaaabbbbccccddddeeeeffffgggghhhhiiiijjjjkkkkllllmmmmnnnnoooopppp");
                Check.same("units of a loan that it does not need", Check.mapOf(Check.after("w1;l1:5")), ".".repeat(56) + "a".repeat(8));
            });
    }

    private static void texts() {
        Sentences.test(0, "The input has at most 60 characters.", () -> {
            CheeseTwins x = new CheeseTwins();
            Check.same("at first", x.account(9), 0);
            for (int i = 1; i <= 60; i++) {
                Check.same("append", x.append('w'), i);
            }
            Check.same("the input", x.account(9), 60);
            Check.idleWithInput("a character more", "l1:5", SIXTY, STATE, y -> y.append(';'));
        });
        Sentences.test(0, "A text consists of orders with a semicolon between two of them: \"l\", a name, \":\" and an "
            + "amount lends; \"q\", a name, \":\" and an amount asks; \"g\" and a loan gives back; \"n\" and a name gives "
            + "all of it back; \"r\", a loan, \":\" and an amount resizes; \"w\" and a digit sets the way.",
            BoundsOfTexts::eachOrder);
        Sentences.test(0, "Numbers have one or two digits.", () -> {
            String[] same = {"l1:4", "l01:4", "l1:04", "l01:04", "q1:4", "q01:04"};
            for (String text : same) {
                Check.same(text, Check.pictureOf(Check.after(text)), Check.pictureOf(Check.after("l1:4")));
            }
            Check.same("g and n", Check.pictureOf(Check.after("l1:4;g00;l1:4;n01")), Check.pictureOf(Check.after("l1:4;g0;l1:4;n1")));
            Check.same("r", Check.pictureOf(Check.after("l1:4;r00:05")), Check.pictureOf(Check.after("l1:4;r0:5")));
            String[] none = {"l:4", "l1:", "q:4", "q1:", "g", "n", "r:4", "r0:", "w"};
            String[] three = {"l001:4", "l1:004", "q001:4", "q1:004", "g000", "n001", "r000:4", "r0:004"};
            for (String text : none) {
                Check.failedRun("l1:3", text, text.endsWith(":") ? 3 : 1);
            }
            for (String text : three) {
                Check.failedRun("l1:3", text, text.indexOf(':') == 2 ? 5 : 3);
            }
            Check.failedRun("l1:3", "w01", 2);
        });
        Sentences.test(0, "The error position of a text is the offset of the first character that cannot continue such a "
            + "text, or the length of the text if it ends too early.", ErrorPositions::all);
        Sentences.test(0, "A text is carried out if each order can be, one after the other; else nothing of it is, and the "
            + "first order that cannot be decides what is thrown.", BoundsOfTexts::eachOrNone);
        Sentences.test(0, "Within a text they are gone through behind each order.", () -> {
            CheeseTwins x = Check.after("l1:64;q2:64");
            Check.type(x, "g0;g0");
            Check.same("the second order gives back what was lent behind the first", x.run(), 2);
            Check.same("nothing is lent", x.account(0) + x.account(4), 0);
            Check.refusedRun("l1:64;q2:64", "g0;l3:1", 2, 0);
            Check.refusedRun("l1:64;q2:32", "r0:32;l3:1", 2, 0);
            CheeseTwins last = Check.after("l1:64;q2:64");
            Check.type(last, "q3:1;g0");
            last.run();
            Check.same("behind the last order", last.loanOf(0, 0) * 10 + last.account(4), 21);
        });
    }

    private static void eachOrder() {
        texts("l0:1", "", 1, "1=0 1. 2. 4. 8. 16. 32.");
        texts("l99:64", "", 1, "64=0");
        texts("q0:1", "", 1, "1=0 1. 2. 4. 8. 16. 32.");
        texts("q99:64", "l1:1", 1, "1=0 1. 2. 4. 8. 16. 32.");
        texts("g0", "l1:64", 1, "64.");
        texts("g15", SIXTEEN_OF_4 + ";n0", 0, "");
        texts("g15", SIXTEEN_OF_1 + ";g0;l1:32", 1, "1. 1=0 1=1 1=2 1=3 1=4 1=5 1=6 1=7 1=8 1=9 1=10 1=11 1=12 1=13 1=14 16. 32.");
        texts("n0", "l0:64", 1, "64.");
        texts("n99", "l99:32;l1:16;l99:1", 1, "32. 16=0 16.");
        texts("r0:1", "l1:64", 1, "1=0 1. 2. 4. 8. 16. 32.");
        texts("r0:64", "l1:1", 1, "64=0");
        texts("r15:16", SIXTEEN_OF_1, 1, "1=0 1=1 1=2 1=3 1=4 1=5 1=6 1=7 1=8 1=9 1=10 1=11 1=12 1=13 1=14 1. 16=15 32.");
        texts("w1;l1:1", "", 2, "32. 16. 8. 4. 2. 1. 1=0");
        texts("w2;l1:1;l2:16", "", 3, "1=0 1. 2. 4. 8. 16. 16=1 16.");
        texts("w2;w0;l1:1", "", 3, "1=0 1. 2. 4. 8. 16. 32.");
        texts("l1:1;q2:2;r0:3;w1;g0;n2", "", 6, "64.");
        texts(TWENTY, "", 20, "64.");
        texts(SIXTY, "", 19, "64=0");
        for (int way = 0; way <= 2; way++) {
            String orders = SIXTEEN_OF_1 + ";g3;g4" + (way == 0 ? "" : ";w" + way) + ";q20:64";
            asMethod("l99:5", orders, x -> x.lend(99, 5));
            asMethod("q99:5", orders, x -> x.ask(99, 5));
            asMethod("q99:64", orders, x -> x.ask(99, 64));
            asMethod("g13", orders, x -> x.give(13));
            asMethod("n13", orders, x -> x.giveAll(13));
            asMethod("r0:9", orders, x -> x.resize(0, 9));
            asMethod("r13:9", orders, x -> x.resize(13, 9));
            asMethod("r1:32;r1:3", orders, x -> {
                x.resize(1, 32);
                x.resize(1, 3);
            });
            int other = (way + 1) % 3;
            asMethod("w" + other, orders, x -> x.way(other));
        }
    }

    /** The text leaves the board as the method does. */
    private static void asMethod(String text, String orders, Check.Use method) {
        CheeseTwins x = Check.after(orders + ";" + text);
        CheeseTwins y = Check.after(orders);
        method.on(y);
        Check.same("behind " + orders + ", the text " + text, Check.boardOf(x), Check.boardOf(y));
    }

    /** Carries a text out behind other orders: how many orders it has, 0 if it cannot be carried out, and the line then. */
    private static void texts(String text, String orders, int count, String line) {
        if (count == 0) {
            Check.failedRun(orders, text, -1);
            return;
        }
        CheeseTwins x = Check.after(orders);
        Check.type(x, text);
        Check.same("orders of " + text, x.run(), count);
        Check.same("line behind " + text, Check.lineOf(x), line);
        Check.same("error position of " + text, x.errorPosition(), -1);
        Check.same("input behind " + text, x.account(9), 0);
    }

    private static void eachOrNone() {
        texts("l1:64;g0;l2:64", "", 3, "64=0");
        Check.failedRun("", "g0;l1:64", -1);
        Check.failedRun("l1:64", "g0;g0", -1);
        String[] begins = {"", "l5:1;", "n1;w2;", "w1;g0;q6:64;", "r0:2;q6:1;w2;g1;"};
        for (String begin : begins) {
            Check.failedRun("l1:10;l2:20;q3:30;q4:40", begin + "g16", -1);
            Check.refusedRun("l1:10;l2:20;q3:30;q4:40", begin + "n97", 4, 0);
            Check.failedRun("l1:10;l2:20;q3:30;q4:40", begin + "l1:0;n97", -1);
            Check.refusedRun("l1:10;l2:20;q3:30;q4:40", begin + "n97;l1:0", 4, 0);
            Check.failedRun("l1:10;l2:20;q3:30;q4:40", begin + "n97;x", begin.length() + 4);
        }
        Check.refusedRun("", TWENTY.substring(0, 57) + "w1", 5, 1);
        Check.failedRun("", TWENTY.substring(0, 57) + "w3", -1);
        Check.failedRun("", TWENTY.substring(0, 54) + "l10:65", -1);
    }

    private static void reasons() {
        Sentences.test(0, "Something is refused for the first that applies of the reasons that its method names, in the "
            + "order in which it names them, with a detail: 1, there are 16 loans: this number; 2, no free piece is large "
            + "enough: the size of the greatest one, 0 without any; 3, 6 wait: this number; 4, the name has no loans: how "
            + "many of this name wait; 5, it is so already: the number that is told.", () -> {
                reasonOfLoans();
                reasonOfPieces();
                reasonOfTheRest();
            });
    }

    private static void reasonOfLoans() {
        Check.idleRefusal("lend", SIXTEEN_OF_1, 1, 16, x -> x.lend(1, 1));
        Check.idleRefusal("lend, and the board is full", SIXTEEN_OF_4, 1, 16, x -> x.lend(1, 1));
        Check.idleRefusal("lend, and no piece is large enough", SIXTEEN_OF_1, 1, 16, x -> x.lend(1, 33));
        Check.refusedRun(SIXTEEN_OF_1, "l1:1", 1, 16);
        Check.same("15 loans", Check.after(SIXTEEN_OF_1 + ";g0").lend(1, 1), 15);
    }

    private static void reasonOfPieces() {
        Check.idleRefusal("lend, and the board is full", "l1:64", 2, 0, x -> x.lend(1, 1));
        for (int greatest = 1; greatest <= 32; greatest *= 2) {
            int size = greatest;
            int[] beyond = {size + 1, 2 * size, 64};
            // The board but the last units is lent.
            String orders = size == 32 ? "l1:32" : "w1;l1:" + size + ";l2:" + size + ";w0;" + fillBeneath(2 * size) + "g0";
            for (int amount : beyond) {
                Check.idleRefusal("lend beyond " + size, orders, 2, size, x -> x.lend(1, amount));
            }
            CheeseTwins enough = Check.after(orders);
            int loans = enough.account(0);
            Check.same("lend the greatest piece", enough.lend(1, size), loans);
        }
        Check.idleRefusal("resize on a full board", "l1:32;l2:32", 2, 32, x -> x.resize(1, 33));
        Check.idleRefusal("resize with small pieces", BoundsOfTerms.EIGHT_PIECES, 2, 8, x -> x.resize(7, 64));
        Check.idleRefusal("resize with its twin", "l1:8;l2:8;l3:16;l4:32;g1", 2, 16, x -> x.resize(0, 17));
        Check.idleRefusal("resize with a greater piece", "l1:1;l2:1", 2, 32, x -> x.resize(0, 33));
        Check.idleRefusal("resize of the least", "l1:1;l2:1;l3:2;l4:4;l5:8;l6:16;l7:32", 2, 1, x -> x.resize(0, 2));
        Check.refusedRun("l1:32;l2:32", "r0:33", 2, 32);
        Check.refusedRun("l1:64", "l2:1", 2, 0);
    }

    /** Orders that lend all beneath the last units, in halves. */
    private static String fillBeneath(int last) {
        StringBuilder orders = new StringBuilder();
        for (int size = last; size < 64; size *= 2) {
            orders.append("l3:").append(size).append(';');
        }
        return orders.toString();
    }

    private static void reasonOfTheRest() {
        Check.idleRefusal("ask", SIX_WAIT, 3, 6, x -> x.ask(1, 1));
        Check.idleRefusal("ask with 16 loans", SIXTEEN_OF_1 + ";q1:1;q2:1;q3:1;q4:1;q5:1;q6:1", 3, 6, x -> x.ask(7, 1));
        Check.refusedRun(SIX_WAIT, "q1:1", 3, 6);
        Check.same("ask with five", Check.after(SIX_WAIT.substring(0, SIX_WAIT.lastIndexOf(';'))).ask(1, 1), -1);
        StringBuilder orders = new StringBuilder("l9:64");
        for (int count = 0; count <= 6; count++) {
            int waiting = count;
            Check.idleRefusal("giveAll with " + count, orders.toString(), 4, waiting, x -> x.giveAll(7));
            Check.idleRefusal("giveAll with none", orders.toString(), 4, 0, x -> x.giveAll(8));
            Check.refusedRun(orders.toString(), "n7", 4, waiting);
            orders.append(";q7:").append(1 + count);
        }
        int[] amounts = {1, 2, 33, 64};
        for (int amount : amounts) {
            Check.idleRefusal("resize to the same", "l9:" + amount, 5, amount, x -> x.resize(0, amount));
            Check.refusedRun("l9:" + amount, "r0:" + amount, 5, amount);
        }
        for (int way = 0; way <= 2; way++) {
            int same = way;
            Check.idleRefusal("the same way", way == 0 ? "" : "w" + way, 5, way, x -> x.way(same));
            Check.refusedRun(way == 0 ? "" : "w" + way, "w" + way, 5, way);
        }
    }

    private static void undo() {
        Sentences.test(0, "The changes are the successful calls of lend, ask, give, giveAll, resize, way, forget and run.",
            () -> {
            // Each change is undone by itself, and the state ahead of it is there again.
            Check.Use[] changes = {x -> x.lend(1, 20), x -> x.lend(2, 16), x -> x.ask(2, 8), x -> x.ask(3, 64), x -> x.ask(4, 33),
                x -> x.resize(1, 15), x -> x.resize(1, 3), x -> x.resize(1, 7), x -> x.forget(0), x -> x.way(1),
                BoundsOfTexts::runWayTwo, x -> x.giveAll(2), x -> x.give(0), x -> x.way(0)};
            CheeseTwins x = new CheeseTwins();
            for (int i = 0; i < changes.length; i++) {
                String before = Check.boardOf(x);
                int can = x.account(10);
                changes[i].on(x);
                Check.same("changes behind " + i, x.account(10), Math.min(can + 1, 8));
                Check.same("undo of " + i, x.undo(), Math.min(can, 7));
                Check.same("behind undo of " + i, Check.boardOf(x), before);
                changes[i].on(x);
            }
            String before = Check.pictureOf(x);
            askAll(x);
            Check.type(x, "abc");
            Check.fails("run", VALUE, x::run);
            x.line();
            x.map();
            x.save();
            Check.same("what else is no change", Check.pictureOf(x), before);
        });
        Sentences.test(0, "The latest 8 can be undone; restore forgets all.", () -> {
            CheeseTwins x = new CheeseTwins();
            for (int i = 0; i < NINE.length; i++) {
                Check.type(x, NINE[i]);
                x.run();
                Check.same("changes", x.account(10), i < 8 ? i + 1 : 8);
            }
            for (int left = 7; left >= 0; left--) {
                Check.same("undo", x.undo(), left);
            }
            Check.same("the first of nine stays", Check.lineOf(x), "8=0 8. 16. 32.");
            Check.failsIdle("a ninth time", x, STATE, x::undo);
            CheeseTwins many = new CheeseTwins();
            for (int i = 0; i < 50; i++) {
                many.way(1 + i % 2);
            }
            Check.same("50 changes", many.account(10), 8);
            many.save();
            many.restore();
            Check.same("changes behind restore", many.account(10), 0);
            Check.failsIdle("undo behind restore", many, STATE, many::undo);
            many.way(0);
            Check.same("undo of the one behind restore", many.undo() * 10 + many.account(8), 2);
            Check.failsIdle("undo further", many, STATE, many::undo);
        });
    }

    private static void runWayTwo(CheeseTwins x) {
        Check.type(x, "w2");
        x.run();
    }

    /** Makes each call that only answers, with numbers that are taken and others. */
    static void askAll(CheeseTwins x) {
        for (int a = -2; a <= 65; a++) {
            for (int b = -1; b <= 5; b++) {
                askOne(x, a, b);
            }
        }
    }

    private static void askOne(CheeseTwins x, int a, int b) {
        Check.Use[] questions = {y -> y.loanOf(a, b), y -> y.nameOf(a, b), y -> y.waitingOf(a, b), y -> y.pieceOf(a, b),
            y -> y.free(a, b > 0), y -> y.greatest(), y -> y.would(a), y -> y.cuts(a), y -> y.fits(a), y -> y.hole(a),
            y -> y.inTheWay(a), y -> y.ranked(a), y -> y.character(a), y -> y.errorPosition(), y -> y.refusal(b > 0),
            y -> y.account(a), y -> y.isWell(), y -> y.meanWaste(), y -> y.lentShare()};
        for (Check.Use question : questions) {
            try {
                question.on(x);
            } catch (IllegalArgumentException | IndexOutOfBoundsException | NoSuchElementException | ArithmeticException e) {
                // Whether the question has an answer does not matter here.
            }
        }
    }

    private static void exceptions() {
        Sentences.test(0, "A method that throws an exception leaves the state unchanged unless its documentation says "
            + "otherwise.", () -> {
            String[] states = {"", "l1:64", SIXTEEN_OF_1, SIXTEEN_OF_4, SIX_WAIT, String.join(";", NINE), BoundsOfTerms.SCATTERED};
            for (String orders : states) {
                BoundsOfTexts.throwEach(orders);
            }
        });
        Sentences.test(0, "If several exceptions apply, the one that is documented first is thrown.", () -> {
            Check.idle("lend: no value ahead of reason 1", SIXTEEN_OF_1, VALUE, x -> x.lend(100, 1));
            Check.idle("lend: no value ahead of reason 2", "l1:64", VALUE, x -> x.lend(1, 65));
            Check.idle("ask: no value ahead of reason 3", SIX_WAIT, VALUE, x -> x.ask(-1, 1));
            Check.idle("ask: no value ahead of reason 3", SIX_WAIT, VALUE, x -> x.ask(1, 0));
            Check.idle("giveAll: no value ahead of reason 4", "", VALUE, x -> x.giveAll(100));
            Check.idle("resize: no index ahead of no value", "l1:64", INDEX, x -> x.resize(1, 65));
            Check.idle("resize: no index ahead of no value", "l1:64", INDEX, x -> x.resize(-1, 0));
            Check.idle("resize: no value ahead of reason 2", "l1:32;l2:32", VALUE, x -> x.resize(0, 65));
            Check.idle("loanOf: no index ahead of no value", "l1:64", INDEX, x -> x.loanOf(1, 5));
            Check.idle("nameOf: no value ahead of no index", "l1:64", VALUE, x -> x.nameOf(100, 4));
            Check.idle("waitingOf: no element ahead of no value", "l1:64", ELEMENT, x -> x.waitingOf(0, 2));
            Check.idle("pieceOf: no index ahead of no value", "l1:64", INDEX, x -> x.pieceOf(64, 4));
            Check.idle("would: no value ahead of no element", "l1:64", VALUE, x -> x.would(65));
            Check.idle("cuts: no value ahead of no element", "l1:64", VALUE, x -> x.cuts(0));
            Check.failedRun("l1:64", "w0;w", 4);
            Check.failedRun("l1:64", "r1:65", -1);
        });
        Sentences.test(0, "The input, the line, the error position and the reason are neither undone nor saved, and stay.",
            () -> {
            CheeseTwins x = Check.prepared("l1:5;l2:6", "l97:1");
            x.undo();
            checkStay(x, "undo", "4,0");
            x.restore();
            checkStay(x, "restore", "4,0");
            x.lend(1, 64);
            Check.fails("lend", UnsupportedOperationException.class, () -> x.lend(1, 1));
            x.save();
            x.undo();
            checkStay(x, "undo of what was saved", "2,0");
            x.restore();
            checkStay(x, "restore of it", "2,0");
            x.give(0);
            Check.same("the input can be run", x.run(), 1);
            x.undo();
            Check.same("undo of run does not type the input", x.account(9), 0);
            Check.same("nor tell another error position", x.errorPosition(), -1);
            x.restore();
            Check.same("nor does restore", x.account(9) + x.errorPosition(), -1);
        });
    }

    private static void checkStay(CheeseTwins x, String what, String reason) {
        Check.same(what + ": the input", x.account(9), 5);
        Check.same(what + ": the line", Check.signsOf(x), "aaaaaaaabbbbbbbb" + ".".repeat(48));
        Check.same(what + ": the error position", x.errorPosition(), 1);
        Check.same(what + ": the reason", Check.reasonOf(x), reason);
    }

    /** Each call that throws in any state. */
    private static void throwEach(String orders) {
        Check.idle("lend", orders, VALUE, x -> x.lend(1, 65));
        Check.idle("ask", orders, VALUE, x -> x.ask(100, 1));
        Check.idle("give", orders, INDEX, x -> x.give(16));
        Check.idle("giveAll", orders, VALUE, x -> x.giveAll(-1));
        Check.idleRefusal("giveAll", orders, 4, 0, x -> x.giveAll(96));
        Check.idle("resize", orders, INDEX, x -> x.resize(16, 1));
        Check.idle("way", orders, VALUE, x -> x.way(3));
        Check.idle("forget", orders, INDEX, x -> x.forget(6));
        Check.idle("loanOf", orders, INDEX, x -> x.loanOf(16, 0));
        Check.idle("nameOf", orders, INDEX, x -> x.nameOf(0, 4));
        Check.idle("waitingOf", orders, ELEMENT, x -> x.waitingOf(6, 0));
        Check.idle("pieceOf", orders, VALUE, x -> x.pieceOf(0, 4));
        Check.idle("free", orders, VALUE, x -> x.free(3, true));
        Check.idle("would", orders, VALUE, x -> x.would(0));
        Check.idle("cuts", orders, VALUE, x -> x.cuts(0));
        Check.idle("fits", orders, VALUE, x -> x.fits(0));
        Check.idle("hole", orders, ELEMENT, x -> x.hole(64));
        Check.idle("inTheWay", orders, VALUE, x -> x.inTheWay(0));
        Check.idle("ranked", orders, ELEMENT, x -> x.ranked(16));
        Check.idle("character", orders, INDEX, x -> x.character(64));
        Check.idle("account", orders, VALUE, x -> x.account(11));
        Check.idleWithInput("append", orders, SIXTY, STATE, x -> x.append('w'));
        Check.failedRun(orders, "w1;", 3);
        Check.failedRun(orders, "w3", -1);
        Check.refusedRun(orders, "n96", 4, 0);
    }
}
