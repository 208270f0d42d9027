import java.util.ArrayList;
import java.util.HashSet;
import java.util.List;
import java.util.Set;

/** The terms of the board: pieces, loans, ways, waiting and resizing. */
final class BoundsOfTerms {
    private static final Class<IllegalArgumentException> VALUE = IllegalArgumentException.class;
    private static final Class<IndexOutOfBoundsException> INDEX = IndexOutOfBoundsException.class;
    static final String EIGHT_PIECES = "l1:8;l2:8;l3:8;l4:8;l5:8;l6:8;l7:8;l8:8";
    // 16 loans of one unit, and of four: the names are 0 to 15.
    static final String SIXTEEN_OF_1 = sixteen(1);
    static final String SIXTEEN_OF_4 = sixteen(4);
    static final String SIX_WAIT = "l9:64;q1:8;q2:7;q3:6;q4:5;q5:8;q6:7";
    // 16. 8=0 4. 4=1 16. 8=2 8.
    static final String SCATTERED = "l1:16;l2:8;l3:4;l4:4;l5:16;l6:8;l7:8;g0;g1;g2;g3";

    private BoundsOfTerms() {
    }

    private static String sixteen(int amount) {
        List<String> orders = new ArrayList<>();
        for (int name = 0; name < 16; name++) {
            orders.add("l" + name + ":" + amount);
        }
        return String.join(";", orders);
    }

    static void all() {
        board();
        halvingAndJoining();
        loans();
        ways();
        waiting();
        resizing();
        inDoubt();
    }

    private static void board() {
        Sentences.test(0, "All numbers are whole, but two.", BoundsOfTerms::numbersThatAreNotWhole);
        Sentences.test(0, "No two twins are free at once.", BoundsOfTerms::noTwinsAreFree);
        Sentences.test(0, "The board has the units 0 to 63.", () -> {
            for (int what = 0; what <= 3; what++) {
                int number = what;
                Check.range("pieceOf(.., " + what + ")", "l1:5", 0, 63, INDEX, (x, unit) -> x.pieceOf(unit, number));
            }
            Check.same("map", new CheeseTwins().map(), 64);
        });
        Sentences.test(0, "It is cut into pieces; each has a size, which is 1, 2, 4, 8, 16, 32 or 64, and begins at a unit "
            + "that its size divides.", BoundsOfTerms::sizesOfPieces);
        Sentences.test(0, "A piece is free, or lent.", () -> {
            CheeseTwins x = new CheeseTwins();
            Check.same("the new board", x.pieceOf(0, 2) + x.pieceOf(63, 2), -2);
            x.lend(1, 64);
            Check.same("the board that is lent", x.pieceOf(0, 2) + x.pieceOf(63, 2), 0);
            x.give(0);
            Check.same("the board given back", x.pieceOf(0, 2) + x.pieceOf(63, 2), -2);
        });
        Sentences.test(0, "The twin of a piece that is less than the board is the other half of the part twice as large, "
            + "beginning at a unit that this size divides, in which the piece is.", BoundsOfTerms::twins);
    }

    private static void numbersThatAreNotWhole() {
        Check.same("meanWaste", Check.after("l1:5;l2:8;l3:15").meanWaste(), 4.0 / 3.0);
        Check.same("lentShare", Check.after("l1:1").lentShare(), 0.015625f);
    }

    private static void noTwinsAreFree() {
        String[] texts = {"l1:1;g0", SIXTEEN_OF_1 + ";g0;g0;g0;g1;g5;g1;g2", SIXTEEN_OF_4 + ";g15;g13;g13;g0;g2;g1",
            "l1:64;r0:1;r0:33;r0:2", "w1;l1:64;r0:1;l2:2;g0;l3:5", "w2;l1:8;l2:8;l3:8;g1;g0", SIX_WAIT + ";g0;g0;g1;g1;g0;g0;g0",
            "l1:4;l1:4;l2:4;l1:4;n1;n2"};
        for (String text : texts) {
            CheeseTwins x = new CheeseTwins();
            x.save();
            for (String order : text.split(";")) {
                Check.carryOut(x, order);
                checkTwins(x, text + " behind " + order);
            }
            while (x.account(10) > 0) {
                x.undo();
                checkTwins(x, text + " with undo");
            }
            x.restore();
            checkTwins(x, text + " with restore");
        }
    }

    private static void checkTwins(CheeseTwins x, String what) {
        for (int place = 0; place < x.account(3); place++) {
            int start = x.hole(place);
            int twin = x.pieceOf(start, 3);
            boolean isFree = twin >= 0 && x.pieceOf(twin, 2) == -1 && x.pieceOf(twin, 0) == x.pieceOf(start, 0);
            Check.same(what + ": the twin of " + start + " is free", isFree, false);
        }
    }

    private static void sizesOfPieces() {
        Set<Integer> sizes = new HashSet<>();
        for (int amount = 1; amount <= 64; amount++) {
            for (int way = 0; way <= 2; way++) {
                CheeseTwins x = Check.after("l3:3;w2;w1" + (way == 1 ? "" : ";w" + way));
                x.ask(1, amount);
                for (int unit = 0; unit < 64; unit += x.pieceOf(unit, 0)) {
                    int size = x.pieceOf(unit, 0);
                    sizes.add(size);
                    Check.same("a piece of " + size + " begins at", unit % size, 0);
                    Check.same("the first unit", x.pieceOf(unit + size - 1, 1), unit);
                }
            }
            sizes.add(Check.after("l1:" + amount).loanOf(0, 3));
        }
        Check.same("the sizes", sizes, Set.of(1, 2, 4, 8, 16, 32, 64));
    }

    private static void twins() {
        // 1=0 1=1 2=2 4=3 8=4 16=5 32=6, and the same from above.
        CheeseTwins lower = Check.after("l1:1;l1:1;l1:2;l1:4;l1:8;l1:16;l1:32");
        CheeseTwins upper = Check.after("w1;l1:1;l1:1;l1:2;l1:4;l1:8;l1:16;l1:32");
        int[] starts = {0, 1, 2, 4, 8, 16, 32};
        int[] twins = {1, 0, 0, 0, 0, 0, 0};
        for (int i = 0; i < starts.length; i++) {
            int size = lower.loanOf(i, 3);
            Check.same("the twin of " + size + " at " + starts[i], lower.pieceOf(starts[i], 3), twins[i]);
            Check.same("of its last unit", lower.pieceOf(starts[i] + size - 1, 3), twins[i]);
            Check.same("from above, of " + size, upper.pieceOf(63 - starts[i], 3), 64 - size - twins[i]);
        }
        Check.same("in the middle", Check.after(EIGHT_PIECES).pieceOf(24, 3), 16);
        Check.same("in the middle", Check.after(EIGHT_PIECES).pieceOf(39, 3), 40);
        Check.same("of the board", new CheeseTwins().pieceOf(63, 3), -1);
        Check.same("of the lent board", Check.after("l1:64").pieceOf(0, 3), -1);
    }

    private static void halvingAndJoining() {
        Sentences.test(0, "To halve a free piece cuts it into two free ones.", () -> {
            for (int way = 0; way <= 2; way++) {
                CheeseTwins x = Check.after(way == 0 ? "" : "w" + way);
                x.lend(1, 32);
                Check.same("halved once, and one of the halves is lent", x.account(6) * 10 + x.account(3), 11);
                x.lend(1, 1);
                Check.same("halved five times, and one of the pieces is lent", x.account(6) * 10 + x.account(3), 65);
            }
        });
        Sentences.test(0, "As a piece becomes free, and its twin is a free piece of the same size, both are joined to one "
            + "free piece; and this is joined with its twin likewise, and so on.", () -> {
                joined("the twin is lent", "l1:32;l2:32;g0", "32. 32=0", 0);
                joined("the twin has a smaller piece that is lent", "l1:16;l2:8;g0", "16. 8=0 8. 32.", 0);
                joined("joined, halved, and joined again", "l1:16;l2:32;g0;l3:8;g1", "32. 32=0", 3);
                joined("a neighbour that is no twin", "l1:16;l2:16;l3:16;l4:16;g1;g1", "16=0 16. 16. 16=1", 0);
                joined("the upper twin is free", "l1:16;l2:16;l3:32;g1;g0", "32. 32=0", 1);
                joined("the lower twin is free", "l1:16;l2:16;l3:32;g0;g0", "32. 32=0", 1);
                joined("no further than to a twin that is lent", "l1:1;l2:16;g0", "16. 16=0 32.", 4);
                joined("the twin of the joined piece is halved", "l1:8;l2:8;l3:4;g0;g0", "16. 4=0 4. 8. 32.", 1);
                joined("up to the board", "l1:1;g0", "64.", 6);
                joined("up to the board, from above", "w1;l1:1;g0", "64.", 6);
                joined("the board itself", "l1:64;g0", "64.", 0);
            });
    }

    private static void joined(String what, String orders, String line, int joinings) {
        CheeseTwins x = Check.after(orders);
        Check.same(what, Check.lineOf(x), line);
        Check.same(what + ": joinings", x.account(7), joinings);
    }

    private static void loans() {
        Sentences.test(0, "There are at most 16 loans, numbered from 0, each with a name from 0 to 99, an amount from 1 to "
            + "64, and a piece.", BoundsOfTerms::boundsOfLoans);
        Sentences.test(0, "When a loan is given back, the numbers of the later ones become 1 less.", () -> {
            for (int given = 0; given < 16; given++) {
                CheeseTwins x = Check.after(SIXTEEN_OF_4);
                x.give(given);
                Check.same("loans", x.account(0), 15);
                for (int loan = 0; loan < 15; loan++) {
                    int before = loan < given ? loan : loan + 1;
                    Check.same("give(" + given + "): the name of " + loan, x.loanOf(loan, 0), before);
                    Check.same("give(" + given + "): the unit of " + loan, x.loanOf(loan, 2), 4 * before);
                    Check.same("give(" + given + "): the loan of the piece", x.pieceOf(4 * before, 2), loan);
                }
            }
        });
        Sentences.test(0, "The need of an amount is the least size that is not less than it.", () -> {
            int[][] due = {{1, 1, 1}, {2, 2, 2}, {3, 4, 4}, {5, 8, 8}, {9, 16, 16}, {17, 32, 32}, {33, 64, 64}};
            for (int[] row : due) {
                for (int amount = row[0]; amount <= row[1]; amount++) {
                    CheeseTwins x = new CheeseTwins();
                    Check.same("the need of " + amount + " fits", x.fits(amount), 64 / row[2]);
                    x.lend(1, amount);
                    Check.same("the need of " + amount, x.loanOf(0, 3), row[2]);
                    Check.same("the need of " + amount + " at once", Check.after("q1:" + amount).loanOf(0, 3), row[2]);
                    CheeseTwins other = Check.after(amount == 20 ? "l1:21" : "l1:20");
                    other.resize(0, amount);
                    Check.same("the need of " + amount + " behind resize", other.loanOf(0, 3), row[2]);
                }
            }
        });
        Sentences.test(0, "To lend, a free piece whose size is not less than the need is found by the way; as long as its "
            + "size is greater, it is halved, and one of the halves is gone on with, the other one stays free; the piece "
            + "that is found at last is lent.", () -> {
                lent("the same size", "l1:8;l2:8;l3:16;g0", 5, "8=2 8=0 16=1 32.", 3);
                lent("the whole board", "", 33, "64=0", 0);
                lent("twice as large", "l1:16;l2:32", 5, "16=0 8=2 8. 32=1", 3);
                lent("the greatest for the least", "", 1, "1=0 1. 2. 4. 8. 16. 32.", 6);
                lent("no piece that is smaller", SCATTERED, 16, "16=3 8=0 4. 4=1 16. 8=2 8.", 6);
            });
        Sentences.test(0, "The waste of a loan is the size of its piece less its amount.", () -> {
            int[][] due = {{1, 0}, {2, 0}, {3, 1}, {4, 0}, {5, 3}, {17, 15}, {32, 0}, {33, 31}, {63, 1}, {64, 0}};
            for (int[] row : due) {
                Check.same("the waste of " + row[0], Check.after("l1:" + row[0]).loanOf(0, 4), row[1]);
            }
            Check.same("the waste behind resize", Check.after("l1:8;r0:5").loanOf(0, 4), 3);
            Check.same("the waste behind resize", Check.after("l1:64;r0:33;r0:3").loanOf(0, 4), 1);
        });
    }

    private static void lent(String what, String orders, int amount, String line, int halvings) {
        CheeseTwins x = Check.after(orders);
        int first = x.would(amount);
        int loan = x.lend(9, amount);
        Check.same(what, Check.lineOf(x), line);
        Check.same(what + ": first unit", x.loanOf(loan, 2), first);
        Check.same(what + ": halvings", x.account(6), halvings);
    }

    private static void boundsOfLoans() {
        CheeseTwins x = new CheeseTwins();
        for (int number = 0; number < 16; number++) {
            Check.same("the number of a loan", x.lend(99 - number, 4), number);
            Check.same("its piece", x.loanOf(number, 2) * 100 + x.loanOf(number, 3), 400 * number + 4);
        }
        Check.idleRefusal("a seventeenth loan", SIXTEEN_OF_1, 1, 16, y -> y.lend(1, 1));
        Check.refusedRun(SIXTEEN_OF_1, "l1:1", 1, 16);
        Check.same("a seventeenth who asks", Check.after(SIXTEEN_OF_1).ask(1, 1), -1);
        Check.range("a name that is lent to", "", 0, 99, VALUE, (y, name) -> y.lend(name, 1));
        Check.range("a name that asks", "", 0, 99, VALUE, (y, name) -> y.ask(name, 1));
        Check.range("a name that waits", "l1:64", 0, 99, VALUE, (y, name) -> y.ask(name, 1));
        Check.range("a name's loans", "", 0, 99, VALUE, (y, name) -> y.nameOf(name, 0));
        Check.range("an amount that is lent", "", 1, 64, VALUE, (y, amount) -> y.lend(1, amount));
        Check.range("an amount that is asked for", "", 1, 64, VALUE, (y, amount) -> y.ask(1, amount));
        Check.range("an amount that is waited for", "l1:64", 1, 64, VALUE, (y, amount) -> y.ask(1, amount));
    }

    private static void ways() {
        int[] amounts = {1, 2, 4, 5, 8, 9, 16};
        Sentences.test(0, "By the way 0, the free piece with the least size is found, of several the one with the lowest "
            + "first unit, and the lower half is gone on with.", () -> {
                found("", amounts, new int[] {24, 24, 24, 56, 56, 0, 0});
                Check.same("the lower halves", Check.lineOf(Check.after("l1:1;l1:2;l1:1")), "1=0 1=2 2=1 4. 8. 16. 32.");
                Check.same("the lowest of several", Check.lineOf(Check.after(EIGHT_PIECES + ";g7;g4;g2;l9:8")),
                    "8=0 8=1 8=5 8=2 8. 8=3 8=4 8.");
            });
        Sentences.test(0, "By the way 1, the one with the least size is found, of several the one with the highest first "
            + "unit, and the upper half is gone on with.", () -> {
                found("w1", amounts, new int[] {27, 26, 24, 56, 56, 32, 32});
                Check.same("the upper halves", Check.lineOf(Check.after("w1;l1:1;l1:2;l1:1")), "32. 16. 8. 4. 2=1 1=2 1=0");
                Check.same("the highest of several", Check.lineOf(Check.after("w1;" + EIGHT_PIECES + ";g7;g4;g2;l9:8")),
                    "8. 8=4 8=3 8. 8=2 8=5 8=1 8=0");
            });
        Sentences.test(0, "By the way 2, the one with the greatest size is found, of several the one with the lowest first "
            + "unit, and the lower half is gone on with.", () -> {
                found("w2", amounts, new int[] {0, 0, 0, 0, 0, 0, 0});
                found("w2;l9:16", amounts, new int[] {32, 32, 32, 32, 32, 32, 32});
                found("w2;l9:16;l9:16", new int[] {1, 4, 5, 8}, new int[] {56, 56, 56, 56});
                Check.same("the lower halves", Check.lineOf(Check.after("w2;l1:1;l1:2;l1:1")), 
                    "1=0 1. 2. 4. 8. 1=2 1. 2. 4. 8. 2=1 2. 4. 8. 16.");
                Check.same("the lowest of several", Check.lineOf(Check.after(EIGHT_PIECES + ";w2;g7;g4;g2;l9:8")),
                    "8=0 8=1 8=5 8=2 8. 8=3 8=4 8.");
            });
    }

    /** Which unit is found behind the scattered pieces and these orders. */
    private static void found(String orders, int[] amounts, int[] due) {
        for (int i = 0; i < amounts.length; i++) {
            CheeseTwins x = Check.after(SCATTERED + ";" + orders);
            int loan = x.lend(9, amounts[i]);
            Check.same("behind " + orders + ", the unit for " + amounts[i], x.loanOf(loan, 2), due[i]);
        }
    }

    private static void waiting() {
        Sentences.test(0, "At most 6 wait, in an order, each with a name and an amount.", () -> {
            CheeseTwins x = Check.after("l9:64");
            for (int place = 0; place < 6; place++) {
                Check.same("ask", x.ask(place == 0 ? 0 : 94 + place, 64 - place), -1);
                Check.same("those who wait", x.account(4), place + 1);
            }
            for (int place = 0; place < 6; place++) {
                Check.same("the name at " + place, x.waitingOf(place, 0), place == 0 ? 0 : 94 + place);
                Check.same("the amount at " + place, x.waitingOf(place, 1), 64 - place);
            }
            Check.idleRefusal("a seventh", SIX_WAIT, 3, 6, y -> y.ask(1, 1));
        });
        Sentences.test(0, "Behind each change by which a piece becomes free, and behind one of the way, those who wait are "
            + "gone through once, from the first one on: each to whom can be lent then is lent to, as the last loan, and "
            + "waits no more.", BoundsOfTerms::goneThrough);
        Sentences.test(0, "Nothing is lent if there are 16 loans.", () -> {
            String waits = SIXTEEN_OF_1 + ";q20:1;q21:2;q22:1";
            Check.same("give lets one of three in", Check.after(waits).give(15), 1);
            CheeseTwins given = Check.after(waits + ";g0");
            Check.same("it is the first one", given.loanOf(15, 0) * 100 + given.waitingOf(0, 0), 2021);
            Check.same("give lets the next one in", given.give(3), 1);
            Check.same("a way lets nobody in", Check.after(waits + ";w1").account(4), 3);
            String resized = SIXTEEN_OF_4 + ";q20:1;q21:2";
            Check.same("a piece that becomes less lets nobody in", Check.after(resized + ";r0:1").account(4), 2);
            Check.same("two given back let two in", Check.after(waits.replace("l3:", "l4:") + ";n4").account(4), 1);
        });
    }

    private static void goneThrough() {
        CheeseTwins nobody = Check.after("l1:64");
        Check.same("nobody waits", nobody.give(0), 0);
        CheeseTwins six = Check.after(SIX_WAIT);
        Check.same("all six", six.give(0), 6);
        Check.same("nobody waits then", six.account(4), 0);
        Check.same("in their order", Check.lineOf(six), "8=0 8=1 8=2 8=3 8=4 8=5 16.");
        for (int loan = 0; loan < 6; loan++) {
            Check.same("the name of " + loan, six.loanOf(loan, 0), loan + 1);
        }
        CheeseTwins last = Check.after("l8:32;l9:32;q1:33;q2:64;q3:40;q4:50;q5:60;q6:1");
        Check.same("the last one alone", last.give(0), 1);
        Check.same("as the last loan", last.loanOf(1, 0) * 100 + last.loanOf(0, 0), 609);
        Check.same("the others wait", last.account(4), 5);
        CheeseTwins none = Check.after("l8:32;l9:32;q1:33;q2:64");
        Check.same("to none can be lent", none.give(1), 0);
        Check.same("they wait", none.account(4), 2);
        CheeseTwins first = Check.after("l9:64;q1:64;q2:1");
        Check.same("the first one has it all", first.give(0), 1);
        Check.same("it is the first one", first.loanOf(0, 0) * 10 + first.waitingOf(0, 0), 12);
        CheeseTwins way = Check.after(SIX_WAIT);
        Check.same("the way before", way.way(2), 0);
        Check.same("behind the way, to none can be lent", way.account(4), 6);
        CheeseTwins all = Check.after("l9:32;l9:32;q1:16;q2:64;q3:33;q4:48;q5:32;q6:16;n9");
        Check.same("behind all of a name", Check.lineOf(all), "16=0 16=2 32=1");
        CheeseTwins resized = Check.after("l9:64;q1:33;q2:32;q3:1;r0:32");
        Check.same("behind resize", Check.lineOf(resized), "32=0 32=1");
        Check.same("who waits behind resize", resized.waitingOf(0, 0) * 10 + resized.waitingOf(1, 0), 13);
        Check.same("by the new way", Check.lineOf(Check.after("l9:64;q1:1;w1;g0")), "32. 16. 8. 4. 2. 1. 1=0");
    }

    private static void resizing() {
        Sentences.test(0, "To give a loan another amount leaves its piece as it is if the need is the same.", () -> {
            int[][] due = {{3, 4}, {4, 3}, {5, 8}, {17, 32}, {33, 64}, {64, 33}};
            for (int[] row : due) {
                CheeseTwins x = Check.after("w1;l1:" + row[0]);
                String line = Check.lineOf(x);
                int halvings = x.account(6);
                Check.same("resize", x.resize(0, row[1]), x.loanOf(0, 2));
                Check.same("from " + row[0] + " to " + row[1], Check.lineOf(x), line);
                Check.same("the amount", x.loanOf(0, 1), row[1]);
                Check.same("the halvings and joinings", x.account(6) - halvings + x.account(7), 0);
            }
        });
        Sentences.test(0, "If the need is less, the piece is halved until it has this size, by the way that is gone on "
            + "with as for a loan; the halves that are not gone on with become free.", () -> {
                resized("l1:64;r0:1", "1=0 1. 2. 4. 8. 16. 32.", 6, 0);
                resized("l1:64;w1;r0:1", "32. 16. 8. 4. 2. 1. 1=0", 6, 0);
                resized("l1:64;w2;r0:1", "1=0 1. 2. 4. 8. 16. 32.", 6, 0);
                resized("l1:2;l2:2;r1:1", "2=0 1=1 1. 4. 8. 16. 32.", 6, 0);
                resized("l1:2;l2:2;w1;r1:1", "2=0 1. 1=1 4. 8. 16. 32.", 6, 0);
                resized("w1;l1:32;w2;r0:9", "32. 16=0 16.", 2, 0);
                resized("l1:64;r0:32", "32=0 32.", 1, 0);
            });
        Sentences.test(0, "If the need is greater, the piece becomes free, then a piece is found as for a new loan, and "
            + "becomes the piece of the loan, which keeps its number.", () -> {
                resized("l1:1;r0:64", "64=0", 6, 6);
                resized("l1:1;r0:2", "2=0 2. 4. 8. 16. 32.", 11, 6);
                resized("l1:4;l2:4;l3:8;r0:5", "4. 4=1 8=2 8=0 8. 32.", 5, 0);
                resized("l1:16;l2:16;l3:32;g1;r0:17", "32=0 32=1", 2, 1);
                resized("l1:16;l2:16;w1;r0:17", "16. 16=1 32=0", 2, 0);
                resized("l1:4;l2:4;l3:4;l4:4;l5:16;w2;g3;r0:5", "4. 4=1 4=2 4. 16=3 8=0 8. 16.", 7, 0);
                CheeseTwins x = Check.after(SIXTEEN_OF_1 + ";r0:2");
                Check.same("the loan of the piece, with 16 loans", x.pieceOf(16, 2) * 100 + x.loanOf(0, 2), 16);
            });
    }

    private static void resized(String orders, String line, int halvings, int joinings) {
        CheeseTwins x = Check.after(orders);
        Check.same("the line behind " + orders, Check.lineOf(x), line);
        Check.same("halvings and joinings behind " + orders, x.account(6) * 100 + x.account(7), halvings * 100 + joinings);
    }

    private static void inDoubt() {
        Sentences.test(0, "When the need of a loan becomes greater or less, those who wait are gone through in any case.",
            () -> {
            Check.same("less", Check.after("l1:64;q2:1;r0:32").account(4), 0);
            Check.same("before it moves", Check.after("l1:4;l2:16;l3:32;r1:8;q4:16").account(4), 1);
            Check.same("it moves, and what it leaves is joined", Check.after("l1:4;l2:16;l3:32;r1:8;q4:16;r0:8").account(4), 0);
            Check.same("nobody can be lent to", Check.after("l1:16;l2:16;q3:64;r0:1;r0:32").account(4), 1);
        });
        Sentences.test(0, "Somebody who asks is lent to at once, if this can be done, also if others wait.", () -> {
            CheeseTwins six = Check.after("l9:32;q1:64;q2:33;q3:64;q4:64;q5:64;q6:40");
            Check.same("with six who wait", six.ask(7, 16), 32);
            Check.same("all six wait still", six.account(4), 6);
            Check.same("with nothing free", Check.after("l9:60;q1:1").ask(2, 1), -1);
        });
        Sentences.test(0, "Those of a name who wait stay when all loans of the name are given back.", () -> {
            CheeseTwins x = Check.after("l1:16;l9:32;l1:16;q1:64;q2:64;q1:33");
            Check.same("giveAll", x.giveAll(1), 2);
            Check.same("those of the name who wait", x.nameOf(1, 3), 2);
            Check.same("all who wait", x.account(4), 3);
            CheeseTwins again = Check.after("l1:64;q1:64");
            Check.same("giveAll", again.giveAll(1), 1);
            Check.same("the one who waits is lent to", again.nameOf(1, 0) * 10 + again.nameOf(1, 3), 10);
        });
        Sentences.test(0, "A loan is in the way of a part if its piece has a unit of it, also if it has others, too.",
            () -> {
            Check.same("a part of a piece", Check.after("l1:64").inTheWay(1), 1);
            Check.same("a part of a piece", Check.after("l1:32;l2:32").inTheWay(16), 1);
            Check.same("a part with many", Check.after(SIXTEEN_OF_4).inTheWay(64), 16);
            Check.same("a part with some", Check.after(SIXTEEN_OF_4).inTheWay(17), 8);
        });
    }
}
