import java.util.NoSuchElementException;

/** Promises 21 to 34: lines, texts, accounts, undo and snapshot at their bounds. */
final class BoundsOfLineCalls {
    private static final Class<IllegalArgumentException> VALUE = IllegalArgumentException.class;
    private static final Class<IndexOutOfBoundsException> INDEX = IndexOutOfBoundsException.class;
    private static final Class<NoSuchElementException> ELEMENT = NoSuchElementException.class;
    private static final Class<IllegalStateException> STATE = IllegalStateException.class;
    private static final Class<UnsupportedOperationException> REFUSED = UnsupportedOperationException.class;
    private static final String SIXTEEN_OF_1 = BoundsOfTerms.SIXTEEN_OF_1;
    private static final String SIXTEEN_OF_4 = BoundsOfTerms.SIXTEEN_OF_4;
    private static final String SIX_WAIT = BoundsOfTerms.SIX_WAIT;

    private BoundsOfLineCalls() {
    }

    static void all() {
        lineAndMap();
        character();
        append();
        run();
        errorPosition();
        refusal();
        account();
        shares();
        undo();
        save();
        restore();
    }

    private static void lineAndMap() {
        Sentences.test(21, "Writes the line of pieces, in place of the line before.", () -> {
            CheeseTwins x = new CheeseTwins();
            x.map();
            Check.same("in place of a longer one", Check.lineOf(x), "64.");
            x.lend(1, 1);
            Check.same("the line stays until it is written", Check.signsOf(x), "64.");
            Check.same("in place of a shorter one", Check.lineOf(x), "1=0 1. 2. 4. 8. 16. 32.");
            Check.same("again", Check.lineOf(x), "1=0 1. 2. 4. 8. 16. 32.");
        });
        Sentences.test(21, "Returns its length.", () -> {
            Check.same("the shortest", new CheeseTwins().line(), 3);
            Check.same("one loan", Check.after("l1:64").line(), 4);
            Check.same("the example", Check.after("l1:4;l2:16").line(), 18);
            Check.same("loans of two digits", Check.after(SIXTEEN_OF_1).line(), 77);
        });
        Sentences.test(22, "Writes the map, in place of the line before.", () -> {
            CheeseTwins x = Check.after("w1;l1:1");
            x.line();
            Check.same("in place of the line", Check.mapOf(x), ".".repeat(63) + "a");
            x.give(0);
            Check.same("in place of a map", Check.mapOf(x), ".".repeat(64));
        });
        Sentences.test(22, "Returns its length.", () -> {
            Check.same("nothing is lent", new CheeseTwins().map(), 64);
            Check.same("all is lent", Check.after(SIXTEEN_OF_4).map(), 64);
        });
    }

    private static void character() {
        Sentences.test(23, "Returns a character of the line, which is empty at first.", () -> {
            CheeseTwins x = Check.after(SIX_WAIT);
            Check.same("no line has been written", Check.signsOf(x), "");
            x.line();
            Check.same("the characters", "" + x.character(0) + x.character(1) + x.character(2) + x.character(3), "64=0");
        });
        Sentences.test(23, "- `index`: the index, from 0", () -> {
            CheeseTwins x = Check.after(SIXTEEN_OF_4);
            x.map();
            Check.same("the first and the last one", "" + x.character(0) + x.character(63), "ap");
        });
        Sentences.test(23, "Returns the character.", () -> {
            CheeseTwins x = Check.after("l1:4;l2:16");
            x.line();
            Check.same("the blank", (int) x.character(3), (int) ' ');
            Check.same("the last one", (int) x.character(17), (int) '.');
        });
        Sentences.test(23, "Throws `IndexOutOfBoundsException` if there is no such index", () -> {
            CheeseTwins x = new CheeseTwins();
            beyond(x, "no line", 0);
            x.line();
            beyond(x, "the shortest line", 3);
            x.map();
            beyond(x, "a map", 64);
            x.line();
            beyond(x, "a shorter line", 3);
            // An object that has been prepared has a map as its line.
            Check.idle("behind a map", SIXTEEN_OF_1, INDEX, y -> y.character(64));
            Check.idle("ahead of a map", SIXTEEN_OF_1, INDEX, y -> y.character(-1));
        });
    }

    private static void beyond(CheeseTwins x, String what, int length) {
        for (int index : new int[] {-1, length, length + 1, Integer.MIN_VALUE, Integer.MAX_VALUE}) {
            Check.failsIdle(what + ": character(" + index + ")", x, INDEX, () -> x.character(index));
        }
    }

    private static void append() {
        Sentences.test(24, "Appends a character to the input.", () -> {
            CheeseTwins x = Check.after("l1:1");
            char[] signs = {'g', '0', ';', 'w', '2'};
            for (char sign : signs) {
                x.append(sign);
            }
            Check.same("run", x.run(), 2);
            Check.same("the state", x.account(0) * 10 + x.account(8), 2);
            char[] any = {0, 1, 127, 128, 255, 256, 0xd800, 0xffff};
            for (int i = 0; i < any.length; i++) {
                Check.same("any character is taken", x.append(any[i]), i + 1);
            }
            Check.fails("run", VALUE, x::run);
            Check.same("its error position", x.errorPosition(), 0);
        });
        Sentences.test(24, "Returns the characters in the input then.", () -> {
            CheeseTwins x = new CheeseTwins();
            for (int i = 1; i <= 60; i++) {
                Check.same("append", x.append('w'), i);
                Check.same("the account", x.account(9), i);
            }
            Check.fails("run", VALUE, x::run);
            Check.same("append behind run", x.append('w'), 1);
        });
        Sentences.test(24, "Throws `IllegalStateException` if the input contains 60 characters", () -> {
            for (char sign : new char[] {'w', ';', 0, 0xffff}) {
                Check.idleWithInput("append", SIX_WAIT, BoundsOfTexts.SIXTY, STATE, x -> x.append(sign));
            }
            CheeseTwins x = Check.prepared("", BoundsOfTexts.TWENTY);
            Check.same("append of the 60th", x.append(';'), 60);
            Check.fails("append of the 61st", STATE, () -> x.append(';'));
            Check.fails("append of the 61st again", STATE, () -> x.append('w'));
            Check.fails("run", VALUE, x::run);
            Check.same("the error position", x.errorPosition(), 60);
        });
    }

    private static void run() {
        Sentences.test(25, "Carries out the text in the input, which is empty afterwards, also if an exception is thrown.",
            () -> {
            String[] texts = {"w1", "", "w", "w3", "w0", "l1:64;g1", BoundsOfTexts.SIXTY, BoundsOfTexts.TWENTY + ";"};
            for (String text : texts) {
                CheeseTwins x = new CheeseTwins();
                outcome(x, text);
                Check.same("the input behind " + text, x.account(9), 0);
                Check.same("the next text alone is carried out", outcome(x, "q5:1"), "1 -1 ");
                Check.fails("run of nothing", VALUE, x::run);
                Check.same("its error position", x.errorPosition(), 0);
            }
        });
        Sentences.test(25, "Returns the number of orders.", () -> {
            Check.same("one", outcome(new CheeseTwins(), "q99:64"), "1 -1 ");
            Check.same("two", outcome(new CheeseTwins(), "l1:1;g0"), "2 -1 ");
            Check.same("the most", outcome(new CheeseTwins(), BoundsOfTexts.TWENTY), "20 -1 ");
            Check.same("the longest text", outcome(new CheeseTwins(), BoundsOfTexts.SIXTY), "19 -1 ");
        });
        Sentences.test(25, "Throws `IllegalArgumentException` if the text has an error, or the method for an order would "
            + "throw another exception than UnsupportedOperationException; if the text has no error, its position is -1",
            () -> {
                for (String state : new String[] {"", SIX_WAIT, SIXTEEN_OF_1}) {
                    Check.failedRun(state, "", 0);
                    Check.failedRun(state, ";", 0);
                    Check.failedRun(state, "l1:1;", 5);
                    Check.failedRun(state, "w1 ", 2);
                    Check.failedRun(state, "w1;l1:0;x", 8);
                    for (String order : "l1:0 l1:00 l99:65 q0:0 q0:99 g16 g99 r16:1 r99:0 w3 w9".split(" ")) {
                        Check.failedRun(state, order, -1);
                        Check.failedRun(state, "w1;" + order, -1);
                        Check.failedRun(state, "w1;" + order + ";n97", -1);
                    }
                }
                Check.failedRun("", "g0", -1);
                Check.failedRun("", "r0:1", -1);
                Check.failedRun("l1:1", "r0:0", -1);
                Check.failedRun("l1:1", "r0:65", -1);
                Check.failedRun("l1:1", "g1", -1);
                Check.failedRun("l1:64", "g0;g0", -1);
            });
        Sentences.test(25, "Throws `UnsupportedOperationException` if it is refused for a reason of the method for an "
            + "order; the reason is kept for refusal", () -> {
                Check.refusedRun(SIXTEEN_OF_1, "w1;l1:1", 1, 16);
                Check.refusedRun(SIX_WAIT, "w1;l1:1", 2, 0);
                Check.refusedRun("l1:1", "w1;l1:33", 2, 32);
                Check.refusedRun(SIX_WAIT, "w1;q1:1", 3, 6);
                Check.refusedRun("l9:64", "q1:1;q1:1;q1:1;q1:1;q1:1;q1:1;q1:1", 3, 6);
                Check.refusedRun(SIX_WAIT, "w1;n6", 4, 1);
                Check.refusedRun("l9:64", "q1:1;q1:1;n1", 4, 2);
                Check.refusedRun("l9:64", "w1;r0:64", 5, 64);
                Check.refusedRun("l9:64", "w1;w1", 5, 1);
                Check.refusedRun("l1:32;l2:32", "w1;r0:33", 2, 32);
                Check.refusedRun("", "l1:4;l1:4;l1:4;l1:4;l1:4;l1:4;l1:4;l1:4;r0:64", 2, 32);
            });
    }

    /** What run answers, or the exception that it throws, and the error position then. */
    private static String outcome(CheeseTwins x, String text) {
        Check.type(x, text);
        String answer;
        try {
            answer = String.valueOf(x.run());
        } catch (IllegalArgumentException | UnsupportedOperationException e) {
            answer = e.getClass().getSimpleName();
        }
        return answer + " " + x.errorPosition() + " ";
    }

    private static void errorPosition() {
        Sentences.test(26, "Returns the error position of the text of the latest call of run.", () -> {
            CheeseTwins x = new CheeseTwins();
            String[] texts = {"x", "w1", "w1;x", "w3", "w0;x", "w0;w0", "w", "w2", "l1:1;l1:1;"};
            int[] due = {0, -1, 3, -1, 3, -1, 1, -1, 10};
            for (int i = 0; i < texts.length; i++) {
                outcome(x, texts[i]);
                Check.same("the error position of " + texts[i], x.errorPosition(), due[i]);
                x.append('x');
                Check.same("append leaves it", x.errorPosition(), due[i]);
                outcome(x, "");
            }
        });
        Sentences.test(26, "Returns the error position, or -1 if that text had no error or run has not been called.",
            () -> {
            CheeseTwins x = new CheeseTwins();
            Check.same("run has not been called", x.errorPosition(), -1);
            x.append('x');
            Check.same("run has not been called", x.errorPosition(), -1);
            Check.same("the least", outcome(x, ""), "IllegalArgumentException 0 ");
            Check.same("no error, and carried out", outcome(x, "w1"), "1 -1 ");
            Check.same("the greatest", outcome(x, BoundsOfTexts.TWENTY + ";"), "IllegalArgumentException 60 ");
            Check.same("no error, and refused", outcome(x, "w1"), "UnsupportedOperationException -1 ");
            Check.same("an error", outcome(x, "w1 "), "IllegalArgumentException 2 ");
            Check.same("no error, and no such way", outcome(x, "w3"), "IllegalArgumentException -1 ");
        });
    }

    private static void refusal() {
        Sentences.test(27, "Returns the reason of the latest refusal.", () -> {
            CheeseTwins x = Check.after(SIX_WAIT);
            String[] texts = {"l1:1", "q1:1", "n6", "r0:64", "w0", "g1", "w", "w1", "n7"};
            String[] due = {"2,0", "3,6", "4,1", "5,64", "5,0", "5,0", "5,0", "5,0", "4,0"};
            for (int i = 0; i < texts.length; i++) {
                outcome(x, texts[i]);
                Check.same("the reason behind " + texts[i], Check.reasonOf(x), due[i]);
            }
            x.undo();
            x.forget(0);
            Check.same("the reason stays", Check.reasonOf(x), "4,0");
        });
        Sentences.test(27, "Returns the reason or the detail.", () -> {
            CheeseTwins x = new CheeseTwins();
            Check.fails("way", REFUSED, () -> x.way(0));
            Check.same("the least detail", x.refusal(true), 0);
            Check.same("the greatest reason", x.refusal(false), 5);
            CheeseTwins full = Check.after(SIXTEEN_OF_1);
            Check.fails("lend", REFUSED, () -> full.lend(1, 1));
            Check.same("another detail", full.refusal(true), 16);
            Check.same("the least reason", full.refusal(false), 1);
        });
        Sentences.test(27, "Throws `NoSuchElementException` if nothing was refused", () -> {
            CheeseTwins x = Check.after(SIX_WAIT + ";w1;g0");
            outcome(x, "l1:0");
            outcome(x, "x");
            Check.fails("lend", VALUE, () -> x.lend(100, 1));
            Check.fails("give", INDEX, () -> x.give(16));
            Check.fails("resize", VALUE, () -> x.resize(0, 0));
            Check.fails("would", ELEMENT, () -> x.would(64));
            Check.failsIdle("refusal(false)", x, ELEMENT, () -> x.refusal(false));
            Check.failsIdle("refusal(true)", x, ELEMENT, () -> x.refusal(true));
        });
    }

    private static void account() {
        Sentences.test(28, "Returns an account.", () -> {
            CheeseTwins x = Check.after("l1:5;l2:12;l1:1;q5:40;g2;w2");
            Check.type(x, "abc");
            int[] due = {2, 17, 24, 2, 1, 7, 6, 3, 2, 3, 6};
            for (int what = 0; what < due.length; what++) {
                Check.same("account(" + what + ")", x.account(what), due[what]);
            }
        });
        Sentences.test(28, "- `what`: 0 for the loans, 1 for their amounts together, 2 for the units of their pieces, 3 "
            + "for the free pieces, 4 for those who wait, 5 for the waste of all loans, 6 for the halvings so far, 7 for "
            + "the joinings so far, 8 for the way, 9 for the characters in the input, 10 for the changes that can be undone",
            () -> {
                accounts("", 0, 0, 0, 1, 0, 0, 0, 0, 0);
                accounts("l1:64", 1, 64, 64, 0, 0, 0, 0, 0, 0);
                accounts("l1:33", 1, 33, 64, 0, 0, 31, 0, 0, 0);
                accounts(SIXTEEN_OF_4, 16, 64, 64, 0, 0, 0, 15, 0, 0);
                accounts(SIX_WAIT, 1, 64, 64, 0, 6, 0, 0, 0, 0);
                accounts(SIXTEEN_OF_4.replace(":4", ":3"), 16, 48, 64, 0, 0, 16, 15, 0, 0);
                accounts("w1;l1:1;g0;w2", 0, 0, 0, 1, 0, 0, 6, 6, 2);
                accounts("l1:1;g0;l1:1;g0;l1:64;r0:1;r0:2", 1, 2, 2, 5, 0, 0, 23, 18, 0);
                CheeseTwins x = Check.after("l1:1;g0");
                x.undo();
                Check.same("the joinings are undone", x.account(7), 0);
                x.undo();
                Check.same("the halvings are undone", x.account(6), 0);
                Check.type(x, BoundsOfTexts.SIXTY);
                Check.same("the full input", x.account(9), 60);
            });
        Sentences.test(28, "Returns the account.", () -> {
            CheeseTwins x = new CheeseTwins();
            for (int i = 0; i <= 10; i++) {
                Check.same("the changes that can be undone", x.account(10), i < 8 ? i : 8);
                x.way(i % 2 + 1);
            }
        });
        Sentences.test(28, "Throws `IllegalArgumentException` if what is not from 0 to 10",
            () -> Check.range("what", SIX_WAIT, 0, 10, VALUE, (x, what) -> x.account(what)));
    }

    private static void accounts(String orders, int... due) {
        CheeseTwins x = Check.after(orders);
        for (int what = 0; what < due.length; what++) {
            Check.same("account(" + what + ") behind " + orders, x.account(what), due[what]);
        }
    }

    private static void shares() {
        Sentences.test(29, "Tells, by a second way, whether all is well: the pieces cover the board, free pieces of each "
            + "size are as many by both ways, each loan has a piece that is no less than it, and the next smaller size "
            + "would be, and to nobody who waits could be lent.", Damage::all);
        Sentences.test(29, "Returns whether this is so.", () -> {
            String[] states = {"", "l1:64", "l1:33", "l1:1", "w1;l1:1", SIXTEEN_OF_1, SIXTEEN_OF_4, SIX_WAIT, SIX_WAIT + ";g0;g2;w2",
                SIXTEEN_OF_1 + ";q1:1;q2:64", SIXTEEN_OF_4 + ";q1:1;r0:1;r5:2", BoundsOfTerms.SCATTERED, "l1:2;r0:1;r0:64;q1:1;r0:32"};
            for (String orders : states) {
                Check.same("isWell behind " + orders, Check.after(orders).isWell(), true);
            }
        });
        Sentences.test(30, "Returns the mean waste of the loans.", () -> {
            Check.same("one loan", Check.after("l1:5").meanWaste(), 3.0);
            Check.same("three loans", Check.after("l1:5;l2:8;l3:15").meanWaste(), 4.0 / 3.0);
            Check.same("not of those who wait", Check.after("l1:33;q2:3").meanWaste(), 31.0);
        });
        Sentences.test(30, "Returns the waste of all divided by their number, both as doubles.", () -> {
            Check.same("no waste", Check.after("l1:64").meanWaste(), 0.0);
            Check.same("the greatest one", Check.after("l1:33").meanWaste(), 31.0);
            Check.same("a third", Check.after("l1:3;l2:1;l3:1").meanWaste(), 1.0 / 3.0);
            Check.same("of 16", Check.after(SIXTEEN_OF_4.replace("l15:4", "l15:3")).meanWaste(), 0.0625);
        });
        Sentences.test(30, "Throws `ArithmeticException` if there are none", () -> {
            Check.idle("at first", "", ArithmeticException.class, CheeseTwins::meanWaste);
            Check.idle("all given back", "l1:5;l2:6;g1;g0", ArithmeticException.class, CheeseTwins::meanWaste);
        });
        Sentences.test(31, "Returns the share of the board that is lent.", () -> {
            Check.same("the units of pieces, not the amounts", Check.after("l1:33").lentShare(), 1.0f);
            Check.same("two loans", Check.after("l1:5;l2:1").lentShare(), 9.0f / 64.0f);
        });
        Sentences.test(31, "Returns the units of lent pieces divided by 64, both as floats.", () -> {
            Check.same("nothing", new CheeseTwins().lentShare(), 0.0f);
            Check.same("a unit", Check.after("l1:1").lentShare(), 1.0f / 64.0f);
            Check.same("all but a unit", Check.after("l1:1;l2:1;l3:2;l4:4;l5:8;l6:16;l7:32;g0").lentShare(), 63.0f / 64.0f);
            Check.same("all", Check.after(SIXTEEN_OF_4).lentShare(), 1.0f);
        });
    }

    private static void undo() {
        Sentences.test(32, "Undoes the latest change.", () -> {
            String[] changes = {"l1:5", "l2:20", "q3:33", "r0:9", "r0:10", "w1", "g1", "n1", "q4:64;w2;n3"};
            for (int count = 1; count <= changes.length; count++) {
                CheeseTwins x = new CheeseTwins();
                CheeseTwins before = new CheeseTwins();
                for (int i = 0; i < count; i++) {
                    Check.type(x, changes[i]);
                    x.run();
                    if (i < count - 1) {
                        Check.type(before, changes[i]);
                        before.run();
                    }
                }
                x.undo();
                Check.same("undo of " + changes[count - 1], Check.boardOf(x), Check.boardOf(before));
            }
            CheeseTwins x = Check.after(SIX_WAIT);
            x.forget(5);
            x.undo();
            Check.same("undo of forget", x.waitingOf(5, 0), 6);
            x.give(0);
            x.undo();
            Check.same("undo of what was lent to all who waited", x.account(4) * 10 + x.account(0), 61);
        });
        Sentences.test(32, "Returns the number of changes that can still be undone.", () -> {
            CheeseTwins x = Check.after("w1;w2;w0;w1;w2;w0;w1;w2;w0;w1");
            for (int left = 7; left >= 0; left--) {
                Check.same("undo", x.undo(), left);
                Check.same("the account", x.account(10), left);
            }
            Check.same("one that was made", Check.after("w1").undo(), 0);
            CheeseTwins both = Check.after("w1;w2");
            both.undo();
            both.way(0);
            Check.same("undo behind undo and a change", both.undo(), 1);
        });
        Sentences.test(32, "Throws `IllegalStateException` if no change can be undone", () -> {
            CheeseTwins x = new CheeseTwins();
            Check.failsIdle("at first", x, STATE, x::undo);
            x.way(1);
            x.undo();
            Check.failsIdle("twice", x, STATE, x::undo);
            CheeseTwins nine = Check.after("w1;w2;w0;w1;w2;w0;w1;w2;w0");
            for (int i = 0; i < 8; i++) {
                nine.undo();
            }
            Check.failsIdle("nine times", nine, STATE, nine::undo);
            Check.same("the first change stays", nine.account(8), 1);
            CheeseTwins restored = Check.prepared("l1:5", "");
            restored.restore();
            Check.failsIdle("behind restore", restored, STATE, restored::undo);
        });
    }

    private static void save() {
        Sentences.test(33, "Takes a snapshot of what changes can change, in place of an earlier one.", () -> {
            CheeseTwins x = Check.after("w1;l1:5;l2:20;q3:33;q4:34;r0:3");
            x.save();
            String saved = Check.boardOf(x);
            x.giveAll(1);
            x.way(2);
            x.forget(0);
            x.restore();
            Check.same("all that changes can change", Check.boardOf(x), saved);
            x.give(0);
            x.save();
            x.giveAll(2);
            x.restore();
            Check.same("in place of the earlier one", x.account(0), 1);
        });
        Sentences.test(33, "Returns the loans.", () -> {
            Check.same("none", new CheeseTwins().save(), 0);
            Check.same("one, and six who wait", Check.after(SIX_WAIT).save(), 1);
            Check.same("the most", Check.after(SIXTEEN_OF_4).save(), 16);
        });
    }

    private static void restore() {
        Sentences.test(34, "Makes everything that changes can change as it is in the snapshot, which stays.", () -> {
            CheeseTwins x = new CheeseTwins();
            x.save();
            Check.carryOut(x, SIX_WAIT + ";w1");
            x.restore();
            Check.same("the new board", Check.pictureOf(x), "0 0 0 1 0 0 0 0 0 0 0 / 64 -1 well ");
            Check.carryOut(x, SIXTEEN_OF_4);
            x.restore();
            Check.same("the new board again", Check.pictureOf(x), "0 0 0 1 0 0 0 0 0 0 0 / 64 -1 well ");
            x.lend(1, 1);
            x.undo();
            x.restore();
            Check.same("the new board behind undo", Check.pictureOf(x), "0 0 0 1 0 0 0 0 0 0 0 / 64 -1 well ");
            CheeseTwins full = Check.after(SIXTEEN_OF_4 + ";q1:1;q2:2");
            full.save();
            full.giveAll(1);
            full.restore();
            Check.same("a full board", full.account(0) * 100 + full.account(2) + full.account(4), 1666);
            full.restore();
            Check.same("a full board again", full.account(0) * 100 + full.account(2) + full.account(4), 1666);
        });
        Sentences.test(34, "Returns the loans.", () -> {
            for (String orders : new String[] {"", SIX_WAIT, SIXTEEN_OF_4}) {
                CheeseTwins x = Check.after(orders);
                int loans = x.save();
                if (loans > 0) {
                    x.give(0);
                }
                Check.same("restore", x.restore(), loans);
            }
        });
        Sentences.test(34, "Throws `IllegalStateException` if there is no snapshot", () -> {
            CheeseTwins x = Check.after("l1:5;q2:64");
            Check.failsIdle("restore", x, STATE, x::restore);
            Check.same("the changes can be undone", x.undo() + x.undo(), 1);
        });
    }
}
