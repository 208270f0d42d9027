import java.util.NoSuchElementException;

/** Promises 1 to 11: their bounds, their refusals, and what is left as it was. */
final class BoundsOfLoanCalls {
    private static final Class<IllegalArgumentException> VALUE = IllegalArgumentException.class;
    private static final Class<IndexOutOfBoundsException> INDEX = IndexOutOfBoundsException.class;
    private static final Class<NoSuchElementException> ELEMENT = NoSuchElementException.class;
    private static final String SIXTEEN_OF_1 = BoundsOfTerms.SIXTEEN_OF_1;
    private static final String SIXTEEN_OF_4 = BoundsOfTerms.SIXTEEN_OF_4;
    private static final String SIX_WAIT = BoundsOfTerms.SIX_WAIT;
    private static final String EIGHT_PIECES = BoundsOfTerms.EIGHT_PIECES;

    private BoundsOfLoanCalls() {
    }

    static void all() {
        newObject();
        lend();
        ask();
        give();
        giveAll();
        resize();
        way();
        forget();
        loanOf();
        nameOf();
        waitingOf();
    }

    private static void newObject() {
        Sentences.test(1, "Creates a board that is one free piece of 64 units, without loans, with the way 0.", () -> {
            CheeseTwins x = new CheeseTwins();
            Check.same("all accounts", Check.pictureOf(x), "0 0 0 1 0 0 0 0 0 0 0 / 64 -1 well ");
            Check.same("the line", Check.signsOf(x), "");
            Check.same("the error position", x.errorPosition(), -1);
            Check.same("the reason", Check.reasonOf(x), "none");
            Check.same("a loan", x.nameOf(0, 0) + x.nameOf(99, 0), 0);
            Check.failsIdle("undo", x, IllegalStateException.class, x::undo);
            Check.failsIdle("restore", x, IllegalStateException.class, x::restore);
            new CheeseTwins().lend(1, 1);
            Check.same("behind a loan of another object", Check.lineOf(x), "64.");
        });
    }

    private static void lend() {
        Sentences.test(2, "Lends.", () -> {
            CheeseTwins x = new CheeseTwins();
            x.lend(99, 33);
            Check.same("the state", Check.pictureOf(x), "1 33 64 0 0 31 0 0 0 0 1 | 99 33 0 64 31 / 64 0 well ");
        });
        Sentences.test(2, "Returns the number of the loan.", () -> {
            CheeseTwins x = new CheeseTwins();
            for (int loan = 0; loan < 16; loan++) {
                Check.same("lend", x.lend(7, 4), loan);
            }
            x.give(3);
            Check.same("behind give", x.lend(8, 4), 15);
            Check.same("where the other one was", x.loanOf(15, 2), 12);
            Check.same("by the way 1", Check.after("l1:1;w1").lend(2, 1), 1);
        });
        Sentences.test(2, "Throws `IllegalArgumentException` if there is no such name or amount", () -> {
            Check.range("lend to a name", "", 0, 99, VALUE, (x, name) -> x.lend(name, 64));
            Check.range("lend an amount", "", 1, 64, VALUE, (x, amount) -> x.lend(0, amount));
            Check.idle("neither", "", VALUE, x -> x.lend(-1, 0));
            Check.idle("neither", "", VALUE, x -> x.lend(Integer.MAX_VALUE, Integer.MIN_VALUE));
        });
        Sentences.test(2, "Throws `UnsupportedOperationException` if it is refused for reason 1 or 2; the reason is kept "
            + "for refusal", () -> {
            Check.idleRefusal("16 loans", SIXTEEN_OF_1, 1, 16, x -> x.lend(0, 1));
            Check.idleRefusal("no piece at all", SIX_WAIT, 2, 0, x -> x.lend(0, 1));
            Check.idleRefusal("no piece of twice the size", "l1:1", 2, 32, x -> x.lend(0, 33));
            Check.idleRefusal("pieces enough, but no great one", EIGHT_PIECES + ";g0;g1;g2;g3", 2, 8, x -> x.lend(0, 9));
            Check.same("the greatest piece", Check.after("l1:1").lend(0, 32), 1);
            Check.same("the last piece of a full board", Check.after("l1:32;l2:16;l3:16;g1").lend(4, 16), 2);
        });
    }

    private static void ask() {
        Sentences.test(3, "Lends, if this can be done, or else lets the name wait, as the last one.", () -> {
            CheeseTwins x = new CheeseTwins();
            x.ask(0, 32);
            x.ask(99, 32);
            Check.same("lent to", Check.pictureOf(x), "2 64 64 0 0 0 1 0 0 0 2 | 0 32 0 32 0 | 99 32 32 32 0 / 32 0 / 32 1 well ");
            x.ask(5, 64);
            x.ask(5, 1);
            Check.same("they wait", Check.pictureOf(x),
                "2 64 64 0 2 0 1 0 0 0 4 | 0 32 0 32 0 | 99 32 32 32 0 ? 5:64 ? 5:1 / 32 0 / 32 1 well ");
            Check.same("with 16 loans", Check.after(SIXTEEN_OF_1 + ";q7:1").waitingOf(0, 0), 7);
            Check.same("with 15 loans", Check.after(SIXTEEN_OF_1 + ";g0;q7:1").loanOf(15, 0), 7);
        });
        Sentences.test(3, "Returns the first unit of the piece that is lent, or -1 if the name waits.", () -> {
            Check.same("the board", new CheeseTwins().ask(1, 64), 0);
            Check.same("the last unit", Check.after("w1").ask(1, 1), 63);
            Check.same("the middle", Check.after("l1:32").ask(1, 32), 32);
            Check.same("not the number of the loan", Check.after(SIXTEEN_OF_4 + ";g9").ask(1, 3), 36);
            Check.same("who waits", Check.after("l1:64").ask(1, 1), -1);
            Check.same("who waits, with free pieces", Check.after("l1:1").ask(1, 33), -1);
        });
        Sentences.test(3, "Throws `IllegalArgumentException` if there is no such name or amount", () -> {
            Check.range("a name that waits", "l1:64", 0, 99, VALUE, (x, name) -> x.ask(name, 64));
            Check.range("an amount that is waited for", "l1:64", 1, 64, VALUE, (x, amount) -> x.ask(0, amount));
            Check.range("an amount that is lent", "", 1, 64, VALUE, (x, amount) -> x.ask(99, amount));
            Check.idle("neither", "l1:64", VALUE, x -> x.ask(100, 65));
        });
        Sentences.test(3, "Throws `UnsupportedOperationException` if it is refused for reason 3, if it would have to wait; "
            + "the reason is kept for refusal", () -> {
                Check.idleRefusal("a full board", SIX_WAIT, 3, 6, x -> x.ask(0, 1));
                Check.idleRefusal("a small piece", "l1:32;q1:33;q2:33;q3:33;q4:33;q5:33;q6:33", 3, 6, x -> x.ask(0, 33));
                Check.idleRefusal("16 loans", SIXTEEN_OF_1 + ";q1:1;q1:1;q1:1;q1:1;q1:1;q1:1", 3, 6, x -> x.ask(1, 1));
                Check.same("who need not wait", Check.after("l1:32;q1:33;q2:33;q3:33;q4:33;q5:33;q6:33").ask(0, 32), 32);
                CheeseTwins x = new CheeseTwins();
                x.lend(1, 1);
                for (int place = 0; place < 6; place++) {
                    Check.same("who waits", x.ask(place, 33 + place), -1);
                }
                Check.refused("a seventh without any text", x, 3, 6, () -> x.ask(7, 33));
                Check.same("an eighth who need not wait", x.ask(8, 32), 32);
                Check.same("the sixth", Check.after("l1:64;q1:1;q2:1;q3:1;q4:1;q5:1").ask(6, 1), -1);
            });
    }

    private static void give() {
        Sentences.test(4, "Gives a loan back, and lends to those who wait.", () -> {
            Check.same("the only one", Check.pictureOf(Check.after("l1:64;g0")), "0 0 0 1 0 0 0 0 0 0 2 / 64 -1 well ");
            Check.same("to one who waits", Check.pictureOf(Check.after("l1:64;q2:3;g0")),
                "1 3 4 4 0 1 4 0 0 0 3 | 2 3 0 4 1 / 4 0 / 4 -1 / 8 -1 / 16 -1 / 32 -1 well ");
            Check.same("to one of two", Check.lineOf(Check.after("l1:32;l2:32;q3:64;q4:32;g1")), "32=0 32=1");
        });
        Sentences.test(4, "Returns to how many of them is lent.", () -> {
            Check.same("nobody waits", Check.after("l1:64").give(0), 0);
            Check.same("to none", Check.after("l1:32;l2:32;q3:64").give(0), 0);
            Check.same("to one", Check.after("l1:64;q2:64;q3:64").give(0), 1);
            Check.same("to five", Check.after("l1:64;q1:8;q2:64;q3:6;q4:5;q5:8;q6:7").give(0), 5);
            Check.same("to six", Check.after(SIX_WAIT).give(0), 6);
            Check.same("to one as there are 16 loans then", Check.after(SIXTEEN_OF_1 + ";q1:1;q2:1;q3:1").give(0), 1);
        });
        Sentences.test(4, "Throws `IndexOutOfBoundsException` if there is no such loan", () -> {
            Check.range("one of 16", SIXTEEN_OF_4, 0, 15, INDEX, (x, loan) -> x.give(loan));
            Check.range("the only one", "l1:64;q2:1", 0, 0, INDEX, (x, loan) -> x.give(loan));
            Check.range("none", "", 0, -1, INDEX, (x, loan) -> x.give(loan));
            Check.idle("one that was given back", "l1:1;g0", INDEX, x -> x.give(0));
        });
    }

    private static void giveAll() {
        Sentences.test(5, "Gives all loans of a name back, the last one first, and then lends to those who wait.", () -> {
            Check.same("all loans", Check.pictureOf(Check.after("l1:32;l1:32;n1")), "0 0 0 1 0 0 1 1 0 0 3 / 64 -1 well ");
            Check.same("not those of others", Check.mapOf(Check.after(SIXTEEN_OF_4.replace("l7:", "l2:").replace("l15:", "l2:") + ";n2")),
                "aaaabbbb....ccccddddeeeeffff....gggghhhhiiiijjjjkkkkllllmmmm....");
            Check.same("then to the first one", Check.lineOf(Check.after("l1:32;l1:32;q3:64;q2:10;n1")), "64=0");
            Check.same("then to both", Check.lineOf(Check.after("l1:32;l1:32;q2:10;q3:64;q4:17;n1")), "16=0 16. 32=1");
            Check.same("all 16", Check.pictureOf(Check.after("l1:4" + ";l1:4".repeat(15) + ";n1")),
                "0 0 0 1 0 0 15 15 0 0 8 / 64 -1 well ");
        });
        Sentences.test(5, "Returns how many are given back.", () -> {
            Check.same("one", Check.after("l0:64;q0:1;q0:1").giveAll(0), 1);
            Check.same("two, and three are lent to", Check.after("l99:32;l99:32;q1:1;q2:1;q3:1").giveAll(99), 2);
            Check.same("16", Check.after("l1:4" + ";l1:4".repeat(15)).giveAll(1), 16);
        });
        Sentences.test(5, "Throws `IllegalArgumentException` if there is no such name", () -> {
            for (int name = 0; name <= 99; name++) {
                Check.same("giveAll(" + name + ")", Check.after("l" + name + ":1").giveAll(name), 1);
            }
            int[] beyond = {-1, 100, 199, -99, Integer.MIN_VALUE, Integer.MAX_VALUE};
            for (int name : beyond) {
                Check.idle("giveAll(" + name + ")", "l0:1;l99:1", VALUE, x -> x.giveAll(name));
            }
        });
        Sentences.test(5, "Throws `UnsupportedOperationException` if it is refused for reason 4; the reason is kept for "
            + "refusal", () -> {
            CheeseTwins x = new CheeseTwins();
            Check.refused("nothing is lent", x, 4, 0, () -> x.giveAll(0));
            Check.idleRefusal("another one waits", SIX_WAIT, 4, 1, y -> y.giveAll(6));
            Check.idleRefusal("one who had a loan", "l1:64;n1;l2:64;q1:1;q1:2", 4, 2, y -> y.giveAll(1));
            Check.idleRefusal("six times", "l1:64;q0:1;q0:1;q0:1;q0:1;q0:1;q0:1", 4, 6, y -> y.giveAll(0));
        });
    }

    private static void resize() {
        Sentences.test(6, "Gives a loan another amount, and then, if a piece became free, lends to those who wait.", () -> {
            Check.same("the same need, and nobody is lent to", Check.pictureOf(Check.after("l1:40;q2:1;r0:33")),
                "1 33 64 0 1 31 0 0 0 0 3 | 1 33 0 64 31 ? 2:1 / 64 0 well ");
            Check.same("less", Check.pictureOf(Check.after("l1:33;q2:1;r0:32")),
                "2 33 33 5 0 0 6 0 0 0 3 | 1 32 0 32 0 | 2 1 32 1 0 / 32 0 / 1 1 / 1 -1 / 2 -1 / 4 -1 / 8 -1 / 16 -1 well ");
            Check.same("greater, and what becomes free is joined", Check.lineOf(Check.after("l1:4;l2:16;l3:32;r1:8;q4:16;r0:8")),
                "16=3 8=1 8=0 32=2");
            Check.same("only the one loan", Check.after("l1:3;l2:3;l3:3;r1:4").nameOf(1, 1) + Check.after("l1:3;r0:4").loanOf(0, 1), 7);
            Check.same("with 16 loans", Check.after(SIXTEEN_OF_4 + ";q1:1;r15:1").account(4), 1);
        });
        Sentences.test(6, "Returns the first unit of its piece then, ahead of what is lent to others.", () -> {
            Check.same("the same", Check.after("w1;l1:8").resize(0, 5), 56);
            Check.same("less, by the way 0", Check.after("l1:64").resize(0, 1), 0);
            Check.same("less, by the way 1", Check.after("l1:64;w1").resize(0, 1), 63);
            Check.same("less, by the way 2", Check.after("w1;l1:32;w2").resize(0, 1), 32);
            Check.same("greater", Check.after("w1;l1:1;l2:8").resize(0, 2), 62);
            Check.same("greater, the board", Check.after("w1;l1:1").resize(0, 64), 0);
            Check.same("ahead of one who would have had it", Check.after("l1:4;l2:16;l3:32;r1:8;q4:16").resize(0, 8), 24);
            Check.same("ahead of one who has the rest", Check.after("l1:64;q2:32").resize(0, 32), 0);
        });
        Sentences.test(6, "Throws `IndexOutOfBoundsException` if there is no such loan", () -> {
            Check.range("one of 16", SIXTEEN_OF_4, 0, 15, INDEX, (x, loan) -> x.resize(loan, 3));
            Check.range("the only one", "l1:64;q1:1", 0, 0, INDEX, (x, loan) -> x.resize(loan, 1));
            Check.range("none", "", 0, -1, INDEX, (x, loan) -> x.resize(loan, 1));
        });
        Sentences.test(6, "Throws `IllegalArgumentException` if there is no such amount", () -> {
            // The loan's own amount is left out: it is refused as being so already.
            Check.range("another amount", "l1:1;r0:64", 1, 63, VALUE, (x, amount) -> x.resize(0, amount == 64 ? 65 : amount));
            Check.range("another amount", "l1:1", 2, 64, VALUE, (x, amount) -> x.resize(0, amount == 1 ? 0 : amount));
        });
        Sentences.test(6, "Throws `UnsupportedOperationException` if it is refused for reason 5, with the amount, or 2, "
            + "where its own piece counts as free; the reason is kept for refusal", () -> {
                Check.idleRefusal("the least amount", "l1:1", 5, 1, x -> x.resize(0, 1));
                Check.idleRefusal("the greatest amount", "l1:64", 5, 64, x -> x.resize(0, 64));
                Check.idleRefusal("the amount, not the size", "l1:5", 5, 5, x -> x.resize(0, 5));
                Check.idleRefusal("its own piece is the greatest", "l1:32;l2:32;q3:64", 2, 32, x -> x.resize(0, 33));
                Check.idleRefusal("its own piece is joined", "l1:8;l2:8;l3:16;l4:32;g1", 2, 16, x -> x.resize(0, 32));
                Check.idleRefusal("another piece is greater", "l1:1;l2:1", 2, 32, x -> x.resize(1, 33));
                Check.idleRefusal("the least piece alone", "l1:1;l2:1;l3:2;l4:4;l5:8;l6:16;l7:32", 2, 1, x -> x.resize(1, 2));
                Check.same("its own piece, joined, is enough", Check.after("l1:8;l2:8;l3:16;l4:32;g1").resize(0, 16), 0);
                Check.same("its own piece, joined to the board", Check.after("l1:1").resize(0, 64), 0);
                Check.same("with 16 loans", Check.after(SIXTEEN_OF_1).resize(15, 2), 16);
            });
    }

    private static void way() {
        Sentences.test(7, "Sets the way, and lends to those who wait.", () -> {
            for (int way = 1; way <= 2; way++) {
                CheeseTwins x = Check.after(SIX_WAIT + ";w" + way);
                Check.same("the way", x.account(8), way);
                Check.same("nobody can be lent to", Check.pictureOf(x).substring(Check.pictureOf(x).indexOf('|')),
                    "| 9 64 0 64 0 ? 1:8 ? 2:7 ? 3:6 ? 4:5 ? 5:8 ? 6:7 / 64 0 well ");
            }
            Check.same("the next loan is lent by it", Check.after("w1;w2;w0;w1").would(1), 63);
        });
        Sentences.test(7, "Returns the way before.", () -> {
            CheeseTwins x = new CheeseTwins();
            int[] ways = {1, 2, 0, 2, 1, 0};
            int before = 0;
            for (int way : ways) {
                Check.same("way(" + way + ")", x.way(way), before);
                before = way;
            }
        });
        Sentences.test(7, "Throws `IllegalArgumentException` if there is no such way", () -> {
            // The way that is set is left out: it is refused as being so already.
            Check.range("a way", "w1;w2", 0, 1, VALUE, (x, way) -> x.way(way == 2 ? 3 : way));
            Check.range("a way", "", 1, 2, VALUE, (x, way) -> x.way(way == 0 ? -1 : way));
        });
        Sentences.test(7, "Throws `UnsupportedOperationException` if it is refused for reason 5, with the way; the reason "
            + "is kept for refusal", () -> {
                Check.idleRefusal("the way 0", "", 5, 0, x -> x.way(0));
                Check.idleRefusal("the way 0 again", "w2;w0", 5, 0, x -> x.way(0));
                Check.idleRefusal("the way 1", "w1;" + SIX_WAIT, 5, 1, x -> x.way(1));
                Check.idleRefusal("the way 2", "w2", 5, 2, x -> x.way(2));
            });
    }

    private static void forget() {
        Sentences.test(8, "Lets one who waits go.", () -> {
            for (int place = 0; place < 6; place++) {
                CheeseTwins x = Check.after(SIX_WAIT);
                x.forget(place);
                for (int i = 0; i < 5; i++) {
                    Check.same("forget(" + place + "): the name at " + i, x.waitingOf(i, 0), i < place ? i + 1 : i + 2);
                }
                Check.same("nothing else", Check.lineOf(x), "64=0");
            }
            CheeseTwins last = Check.after(SIX_WAIT);
            last.forget(5);
            Check.same("another one can wait", last.ask(8, 2), -1);
            Check.same("as the last one", last.waitingOf(5, 0) * 10 + last.waitingOf(5, 1), 82);
        });
        Sentences.test(8, "- `place`: the place, from 0", () -> {
            CheeseTwins x = Check.after("l9:64;q1:1;q2:1");
            x.forget(0);
            Check.same("who waits", x.waitingOf(0, 0), 2);
        });
        Sentences.test(8, "Returns how many wait then.", () -> {
            CheeseTwins x = Check.after(SIX_WAIT);
            for (int left = 5; left >= 0; left--) {
                Check.same("forget", x.forget(left / 2), left);
            }
        });
        Sentences.test(8, "Throws `IndexOutOfBoundsException` if there is no such place", () -> {
            Check.range("one of six", SIX_WAIT, 0, 5, INDEX, (x, place) -> x.forget(place));
            Check.range("the only one", "l1:64;q1:1", 0, 0, INDEX, (x, place) -> x.forget(place));
            Check.range("nobody", SIXTEEN_OF_4, 0, -1, INDEX, (x, place) -> x.forget(place));
        });
    }

    private static void loanOf() {
        Sentences.test(9, "Returns a number of a loan.", () -> {
            CheeseTwins x = Check.after(SIXTEEN_OF_4);
            for (int loan = 0; loan < 16; loan++) {
                Check.same("the name of " + loan, x.loanOf(loan, 0), loan);
                Check.same("the unit of " + loan, x.loanOf(loan, 2), 4 * loan);
            }
        });
        Sentences.test(9, "- `what`: 0 for its name, 1 for its amount, 2 for the first unit of its piece, 3 for the size "
            + "of that, 4 for its waste",
            () -> Check.same("each", loanNumbers(Check.after("w1;l99:17"), 0), "99 17 32 32 15 "));
        Sentences.test(9, "Returns the number.", () -> {
            Check.same("the least", loanNumbers(Check.after("l0:1"), 0), "0 1 0 1 0 ");
            Check.same("the last unit", loanNumbers(Check.after("w1;l0:1"), 0), "0 1 63 1 0 ");
            Check.same("the whole board", loanNumbers(Check.after("l99:64"), 0), "99 64 0 64 0 ");
            Check.same("the greatest waste", loanNumbers(Check.after("l99:33"), 0), "99 33 0 64 31 ");
        });
        Sentences.test(9, "Throws `IndexOutOfBoundsException` if there is no such loan", () -> {
            Check.range("one of 16", SIXTEEN_OF_1, 0, 15, INDEX, (x, loan) -> x.loanOf(loan, 0));
            Check.range("the only one", SIX_WAIT, 0, 0, INDEX, (x, loan) -> x.loanOf(loan, 4));
            Check.range("none", "", 0, -1, INDEX, (x, loan) -> x.loanOf(loan, 0));
        });
        Sentences.test(9, "Throws `IllegalArgumentException` if what is not from 0 to 4",
            () -> Check.range("what", "l1:1", 0, 4, VALUE, (x, what) -> x.loanOf(0, what)));
    }

    private static String loanNumbers(CheeseTwins x, int loan) {
        StringBuilder numbers = new StringBuilder();
        for (int what = 0; what <= 4; what++) {
            numbers.append(x.loanOf(loan, what)).append(' ');
        }
        return numbers.toString();
    }

    private static void nameOf() {
        Sentences.test(10, "Returns a number of a name.", () -> {
            CheeseTwins x = Check.after("l0:3;l99:5;l0:9;q99:64;q99:33");
            Check.same("the name 0", nameNumbers(x, 0), "2 12 20 0 ");
            Check.same("the name 99", nameNumbers(x, 99), "1 5 8 2 ");
            Check.same("a name that has none", nameNumbers(x, 1), "0 0 0 0 ");
        });
        Sentences.test(10, "- `what`: 0 for its loans, 1 for their amounts together, 2 for the sizes of their pieces "
            + "together, 3 for how often it waits",
            () -> Check.same("each", nameNumbers(Check.after("l7:3;l8:3;l7:17;q7:60;q8:20;q7:64;q7:64"), 7), "2 20 36 3 "));
        Sentences.test(10, "Returns the number.", () -> {
            Check.same("nothing is lent", nameNumbers(new CheeseTwins(), 0), "0 0 0 0 ");
            Check.same("the whole board", nameNumbers(Check.after("l5:33"), 5), "1 33 64 0 ");
            Check.same("16 loans", nameNumbers(Check.after("l5:3" + ";l5:3".repeat(15)), 5), "16 48 64 0 ");
            Check.same("six times", nameNumbers(Check.after("l4:64;q5:1;q5:2;q5:3;q5:4;q5:5;q5:6"), 5), "0 0 0 6 ");
            Check.same("it waits no more", nameNumbers(Check.after("l4:64;q5:1;g0"), 5), "1 1 1 0 ");
        });
        Sentences.test(10, "Throws `IllegalArgumentException` if there is no such name",
            () -> Check.range("name", "l1:1", 0, 99, VALUE, (x, name) -> x.nameOf(name, 3)));
        Sentences.test(10, "Throws `IndexOutOfBoundsException` if what is not from 0 to 3",
            () -> Check.range("what", "l1:1", 0, 3, INDEX, (x, what) -> x.nameOf(1, what)));
    }

    private static String nameNumbers(CheeseTwins x, int name) {
        return x.nameOf(name, 0) + " " + x.nameOf(name, 1) + " " + x.nameOf(name, 2) + " " + x.nameOf(name, 3) + " ";
    }

    private static void waitingOf() {
        Sentences.test(11, "Returns a number of one who waits.", () -> {
            CheeseTwins x = Check.after(SIX_WAIT);
            int[] amounts = {8, 7, 6, 5, 8, 7};
            for (int place = 0; place < 6; place++) {
                Check.same("the name at " + place, x.waitingOf(place, 0), place + 1);
                Check.same("the amount at " + place, x.waitingOf(place, 1), amounts[place]);
            }
        });
        Sentences.test(11, "- `place`: the place, from 0",
            () -> Check.same("the first one", Check.after("l9:64;q1:2;q3:4").waitingOf(0, 0), 1));
        Sentences.test(11, "- `what`: 0 for the name, 1 for the amount", () -> {
            CheeseTwins x = Check.after("l9:64;q99:64");
            Check.same("each", x.waitingOf(0, 0) * 100 + x.waitingOf(0, 1), 9964);
        });
        Sentences.test(11, "Returns the number.", () -> {
            CheeseTwins x = Check.after("l9:64;q0:1");
            Check.same("the least", x.waitingOf(0, 0) * 100 + x.waitingOf(0, 1), 1);
        });
        Sentences.test(11, "Throws `NoSuchElementException` if there is no such place", () -> {
            Check.range("one of six", SIX_WAIT, 0, 5, ELEMENT, (x, place) -> x.waitingOf(place, 0));
            Check.range("the only one", "l1:64;q1:1", 0, 0, ELEMENT, (x, place) -> x.waitingOf(place, 1));
            Check.range("nobody", SIXTEEN_OF_1, 0, -1, ELEMENT, (x, place) -> x.waitingOf(place, 0));
            Check.idle("one who has left", "l1:64;q1:1;q2:1;g0", ELEMENT, x -> x.waitingOf(0, 0));
        });
        Sentences.test(11, "Throws `IllegalArgumentException` if what is not from 0 to 1",
            () -> Check.range("what", "l1:64;q1:1", 0, 1, VALUE, (x, what) -> x.waitingOf(0, what)));
    }
}
