import java.util.NoSuchElementException;

/** Promises 12 to 20: their bounds, and what throws and leaves all as it was. */
final class BoundsOfPieceCalls {
    private static final Class<IllegalArgumentException> VALUE = IllegalArgumentException.class;
    private static final Class<IndexOutOfBoundsException> INDEX = IndexOutOfBoundsException.class;
    private static final Class<NoSuchElementException> ELEMENT = NoSuchElementException.class;
    private static final String SIXTEEN_OF_1 = BoundsOfTerms.SIXTEEN_OF_1;
    private static final String SIXTEEN_OF_4 = BoundsOfTerms.SIXTEEN_OF_4;
    private static final String SIX_WAIT = BoundsOfTerms.SIX_WAIT;
    private static final String EIGHT_PIECES = BoundsOfTerms.EIGHT_PIECES;
    private static final String SCATTERED = BoundsOfTerms.SCATTERED;
    // 1=0 1. 1. 1=1 4=2 8=3 16=4 32=5: two free units side by side that are no twins.
    private static final String TWO_UNITS = "l1:1;l2:1;l3:1;l4:1;l5:4;l6:8;l7:16;l8:32;g1;g1";
    private static final int[] SIZES = {1, 2, 4, 8, 16, 32, 64};

    private BoundsOfPieceCalls() {
    }

    static void all() {
        pieceOf();
        free();
        greatest();
        would();
        cuts();
        fits();
        hole();
        inTheWay();
        ranked();
    }

    private static void pieceOf() {
        Sentences.test(12, "Returns a number of the piece that has a unit.", () -> {
            CheeseTwins x = Check.after(EIGHT_PIECES + ";g7;g0");
            for (int unit = 0; unit < 64; unit++) {
                int part = unit / 8;
                int loan = part == 0 || part == 7 ? -1 : part - 1;
                int twin = part % 2 == 0 ? 8 * part + 8 : 8 * part - 8;
                Check.same("unit " + unit, pieceNumbers(x, unit), "8 " + 8 * part + " " + loan + " " + twin + " ");
            }
        });
        Sentences.test(12, "- `what`: 0 for its size, 1 for its first unit, 2 for its loan, -1 if it is free, 3 for the "
            + "first unit of its twin, whether this is a piece or not, -1 for the whole board", () -> {
                CheeseTwins x = Check.after("l1:1;l2:2");
                Check.same("a twin that is a piece", pieceNumbers(x, 0), "1 0 0 1 ");
                Check.same("a twin that is cut", pieceNumbers(x, 3), "2 2 1 0 ");
                Check.same("a twin of a free piece that is cut", pieceNumbers(x, 63), "32 32 -1 0 ");
                Check.same("the whole board, free", pieceNumbers(new CheeseTwins(), 31), "64 0 -1 -1 ");
                Check.same("the whole board, lent", pieceNumbers(Check.after("l1:64"), 63), "64 0 0 -1 ");
            });
        Sentences.test(12, "Returns the number.", () -> {
            CheeseTwins x = Check.after("w1;" + SIXTEEN_OF_1);
            Check.same("the last loan", pieceNumbers(x, 48), "1 48 15 49 ");
            Check.same("the first loan", pieceNumbers(x, 63), "1 63 0 62 ");
            Check.same("the first unit", pieceNumbers(x, 0), "32 0 -1 32 ");
        });
        Sentences.test(12, "Throws `IndexOutOfBoundsException` if there is no such unit", () -> {
            Check.range("unit", SIXTEEN_OF_4, 0, 63, INDEX, (x, unit) -> x.pieceOf(unit, 2));
            Check.range("unit", "", 0, 63, INDEX, (x, unit) -> x.pieceOf(unit, 3));
        });
        Sentences.test(12, "Throws `IllegalArgumentException` if what is not from 0 to 3",
            () -> Check.range("what", "l1:1", 0, 3, VALUE, (x, what) -> x.pieceOf(63, what)));
    }

    private static String pieceNumbers(CheeseTwins x, int unit) {
        return x.pieceOf(unit, 0) + " " + x.pieceOf(unit, 1) + " " + x.pieceOf(unit, 2) + " " + x.pieceOf(unit, 3) + " ";
    }

    private static void free() {
        Sentences.test(13, "Returns how many free pieces of a size there are, or, by a second way, how many parts of this "
            + "size that begin at a unit that it divides have only free units, and are the board or in a part twice as "
            + "large of this kind that has other units, too.", () -> {
                freePieces("", 0, 0, 0, 0, 0, 0, 1);
                freePieces("l1:64", 0, 0, 0, 0, 0, 0, 0);
                freePieces("l1:32", 0, 0, 0, 0, 0, 1, 0);
                freePieces("w1;l1:1", 1, 1, 1, 1, 1, 1, 0);
                freePieces(TWO_UNITS, 2, 0, 0, 0, 0, 0, 0);
                freePieces(SCATTERED, 0, 0, 1, 1, 2, 0, 0);
                freePieces(EIGHT_PIECES + ";g6;g4;g2;g0", 0, 0, 0, 4, 0, 0, 0);
                freePieces(EIGHT_PIECES + ";g2;g1", 0, 0, 0, 2, 0, 0, 0);
                freePieces(SIXTEEN_OF_1 + ";g14;g12;g10;g8;g6;g4;g2;g0", 8, 0, 0, 0, 1, 1, 0);
            });
        Sentences.test(13, "Returns how many.", () -> Check.same("the most", Check.after(
            "l1:2;l1:2;l1:2;l1:2;l1:2;l1:2;l1:2;l1:2;l1:2;l1:2;l1:2;l1:2;l1:2;l1:2;l1:2;l1:2;"
            + "r0:1;r1:1;r2:1;r3:1;r4:1;r5:1;r6:1;r7:1;r8:1;r9:1;r10:1;r11:1;r12:1;r13:1;r14:1;r15:1").free(1, true), 16));
        Sentences.test(13, "Throws `IllegalArgumentException` if there is no such size", () -> {
            for (int size = -130; size <= 130; size++) {
                int number = size;
                if (java.util.Arrays.binarySearch(SIZES, size) >= 0) {
                    Check.same("free(" + size + ")", new CheeseTwins().free(size, true), size / 64);
                } else {
                    Check.idle("free(" + size + ", false)", "l1:5", VALUE, x -> x.free(number, false));
                    Check.idle("free(" + size + ", true)", "l1:5", VALUE, x -> x.free(number, true));
                }
            }
            int[] far = {256, 1 << 16, 1 << 30, Integer.MIN_VALUE, Integer.MAX_VALUE};
            for (int size : far) {
                Check.idle("free(" + size + ", false)", "", VALUE, x -> x.free(size, false));
                Check.idle("free(" + size + ", true)", "", VALUE, x -> x.free(size, true));
            }
        });
    }

    /** How many free pieces there are of 1, 2, 4, 8, 16, 32 and 64 units behind these orders, by both ways. */
    private static void freePieces(String orders, int... due) {
        CheeseTwins x = Check.after(orders);
        for (int i = 0; i < SIZES.length; i++) {
            Check.same("free of " + SIZES[i] + " behind " + orders, x.free(SIZES[i], false), due[i]);
            Check.same("free again of " + SIZES[i] + " behind " + orders, x.free(SIZES[i], true), due[i]);
        }
    }

    private static void greatest() {
        Sentences.test(14, "Returns the size of the greatest free piece.", () -> {
            Check.same("the board", new CheeseTwins().greatest(), 64);
            Check.same("the first one", Check.after("w1;l1:1").greatest(), 32);
            Check.same("the last one", Check.after("l1:1").greatest(), 32);
            Check.same("one of several", Check.after(SCATTERED).greatest(), 16);
            Check.same("not of what is free side by side", Check.after(TWO_UNITS).greatest(), 1);
            Check.same("with 16 loans", Check.after(SIXTEEN_OF_1).greatest(), 32);
        });
        Sentences.test(14, "Returns the size.", () -> {
            StringBuilder orders = new StringBuilder("l1:32");
            for (int size = 32; size >= 1; size /= 2) {
                Check.same("greatest", Check.after(orders.toString()).greatest(), size);
                orders.append(";l1:").append(size / 2);
            }
        });
        Sentences.test(14, "Throws `NoSuchElementException` if nothing is free", () -> {
            Check.idle("one loan", "l1:64", ELEMENT, CheeseTwins::greatest);
            Check.idle("16 loans", SIXTEEN_OF_4, ELEMENT, CheeseTwins::greatest);
            Check.idle("those who wait", SIX_WAIT, ELEMENT, CheeseTwins::greatest);
            Check.same("one unit is free", Check.after("l1:1;l2:1;l3:2;l4:4;l5:8;l6:16;l7:32;g0").greatest(), 1);
        });
    }

    private static void would() {
        Sentences.test(15, "Returns the first unit of the piece that would be lent for an amount.", () -> {
            String[] states = {"", "w1", "w2", "l1:1", "w1;l1:1", "w2;l1:1", SCATTERED, SCATTERED + ";w1", SCATTERED + ";w2", TWO_UNITS,
                TWO_UNITS + ";w1", TWO_UNITS + ";w2", EIGHT_PIECES + ";g1;g3;w1"};
            for (String orders : states) {
                for (int amount = 1; amount <= 64; amount++) {
                    CheeseTwins x = Check.after(orders);
                    if (x.fits(amount) > 0) {
                        int would = x.would(amount);
                        Check.same("behind " + orders + ", would(" + amount + ")", would, x.ask(9, amount));
                    }
                }
            }
        });
        Sentences.test(15, "Returns the first unit.", () -> {
            Check.same("the first one of the board", new CheeseTwins().would(1), 0);
            Check.same("the last one of the board", Check.after("w1").would(1), 63);
            Check.same("the whole board by the way 1", Check.after("w1").would(33), 0);
            Check.same("with 16 loans", Check.after(SIXTEEN_OF_1).would(1), 16);
            Check.same("with 16 loans, by the way 1", Check.after(SIXTEEN_OF_1 + ";w1").would(1), 31);
            Check.same("with 16 loans, by the way 2", Check.after(SIXTEEN_OF_1 + ";w2").would(1), 32);
        });
        Sentences.test(15, "Throws `IllegalArgumentException` if there is no such amount", () -> {
            Check.range("would", "", 1, 64, VALUE, (x, amount) -> x.would(amount));
            Check.idle("on a full board", "l1:64", VALUE, x -> x.would(0));
        });
        Sentences.test(15, "Throws `NoSuchElementException` if no free piece is large enough", () -> {
            tooLarge("would", (x, amount) -> x.would(amount));
            Check.same("the greatest piece", Check.after("l1:32").would(32), 32);
            Check.same("the only unit", Check.after("l1:1;l2:1;l3:2;l4:4;l5:8;l6:16;l7:32;g6;g1;l7:32").would(1), 1);
        });
    }

    private static void tooLarge(String what, Check.NumberUse use) {
        Check.idle(what + " on a full board", "l1:64", ELEMENT, x -> use.on(x, 1));
        Check.idle(what + " with 16 loans", SIXTEEN_OF_4, ELEMENT, x -> use.on(x, 64));
        Check.idle(what + " of half the board", "l1:32", ELEMENT, x -> use.on(x, 33));
        Check.idle(what + " of the whole board", "w1;l1:1", ELEMENT, x -> use.on(x, 64));
        Check.idle(what + " of units side by side", TWO_UNITS, ELEMENT, x -> use.on(x, 2));
        Check.idle(what + " of many pieces", EIGHT_PIECES + ";g2;g1;w2", ELEMENT, x -> use.on(x, 9));
    }

    private static void cuts() {
        Sentences.test(16, "Returns how many pieces would be halved to lend an amount.", () -> {
            String[] states = {"", "w1", "w2", "l1:1", "w1;l1:1", "w2;l1:1", SCATTERED, SCATTERED + ";w1", SCATTERED + ";w2", TWO_UNITS};
            for (String orders : states) {
                for (int amount = 1; amount <= 64; amount++) {
                    CheeseTwins x = Check.after(orders);
                    if (x.fits(amount) > 0) {
                        int due = x.account(6) + x.cuts(amount);
                        x.lend(9, amount);
                        Check.same("behind " + orders + ", the halvings for " + amount, x.account(6), due);
                    }
                }
            }
        });
        Sentences.test(16, "Returns how many.", () -> {
            int[] amounts = {1, 2, 3, 4, 5, 8, 9, 16, 17, 32, 33, 64};
            int[] due = {6, 5, 4, 4, 3, 3, 2, 2, 1, 1, 0, 0};
            for (int i = 0; i < amounts.length; i++) {
                Check.same("cuts(" + amounts[i] + ")", new CheeseTwins().cuts(amounts[i]), due[i]);
            }
            Check.same("the same size", Check.after("l1:1").cuts(1), 0);
            Check.same("the greatest one by the way 2", Check.after("l1:1;w2").cuts(1), 5);
            Check.same("with 16 loans", Check.after(SIXTEEN_OF_1).cuts(1), 4);
        });
        Sentences.test(16, "Throws `IllegalArgumentException` if there is no such amount", () -> {
            Check.range("cuts", "", 1, 64, VALUE, (x, amount) -> x.cuts(amount));
            Check.idle("on a full board", "l1:64", VALUE, x -> x.cuts(65));
        });
        Sentences.test(16, "Throws `NoSuchElementException` if no free piece is large enough", () -> {
            tooLarge("cuts", (x, amount) -> x.cuts(amount));
            Check.same("the greatest piece", Check.after("l1:32").cuts(32), 0);
        });
    }

    private static void fits() {
        Sentences.test(17, "Returns how many loans of an amount the free pieces have room for, one after the other, "
            + "however many loans there are.", () -> {
                Check.same("more than there can be", new CheeseTwins().fits(1), 64);
                Check.same("with 16 loans", Check.after(SIXTEEN_OF_1).fits(1), 48);
                Check.same("with 16 loans", Check.after(SIXTEEN_OF_1).fits(17), 1);
                Check.same("units side by side", Check.after(TWO_UNITS).fits(2), 0);
                Check.same("units side by side", Check.after(TWO_UNITS).fits(1), 2);
                Check.same("pieces of several sizes", Check.after(SCATTERED).fits(3), 11);
                Check.same("pieces of several sizes", Check.after(SCATTERED).fits(9), 2);
            });
        Sentences.test(17, "Returns how many.", () -> {
            Check.same("the board", new CheeseTwins().fits(64), 1);
            Check.same("the need of it", new CheeseTwins().fits(33), 1);
            Check.same("halves", new CheeseTwins().fits(32), 2);
            Check.same("none on a full board", Check.after("l1:64").fits(1), 0);
            Check.same("none of half the board", Check.after("l1:32").fits(33), 0);
        });
        Sentences.test(17, "Throws `IllegalArgumentException` if there is no such amount", () -> {
            Check.range("fits", "", 1, 64, VALUE, (x, amount) -> x.fits(amount));
            Check.range("fits on a full board", "l1:64", 1, 64, VALUE, (x, amount) -> x.fits(amount));
        });
    }

    private static void hole() {
        Sentences.test(18, "Returns the first unit of a free piece.", () -> {
            int[] due = {0, 24, 32, 56};
            for (int place = 0; place < due.length; place++) {
                Check.same("hole(" + place + ")", Check.after(SCATTERED).hole(place), due[place]);
            }
            Check.same("units side by side", Check.after(TWO_UNITS).hole(0) * 10 + Check.after(TWO_UNITS).hole(1), 12);
        });
        Sentences.test(18, "- `place`: its place in the order of the units, from 0", () -> {
            CheeseTwins x = Check.after("w1;l1:1");
            int[] due = {0, 32, 48, 56, 60, 62};
            for (int place = 0; place < due.length; place++) {
                Check.same("hole(" + place + ")", x.hole(place), due[place]);
            }
        });
        Sentences.test(18, "Returns the first unit.", () -> {
            Check.same("the board", new CheeseTwins().hole(0), 0);
            Check.same("the last unit", Check.after("w1;l1:1;l2:1;g0").hole(5), 63);
        });
        Sentences.test(18, "Throws `NoSuchElementException` if there is no such place", () -> {
            Check.range("one of four", SCATTERED, 0, 3, ELEMENT, (x, place) -> x.hole(place));
            Check.range("the board", "", 0, 0, ELEMENT, (x, place) -> x.hole(place));
            Check.range("a full board", "l1:64", 0, -1, ELEMENT, (x, place) -> x.hole(place));
        });
    }

    private static void inTheWay() {
        Sentences.test(19, "Returns how many loans would have to be given back, at least, so that a part of the size that "
            + "an amount needs would be free: the part that has the fewest loans in it, among those that begin at a unit "
            + "that the size divides.", () -> {
                Check.same("units side by side are no part", Check.after(TWO_UNITS).inTheWay(2), 1);
                Check.same("a free unit", Check.after(TWO_UNITS).inTheWay(1), 0);
                Check.same("the need, not the amount", Check.after(SIXTEEN_OF_4).inTheWay(5), 2);
                Check.same("the part with the fewest, the last", Check.after("l1:16;l2:16;l3:8;l4:8;l5:16;r4:9").inTheWay(16), 1);
                Check.same("the part with the fewest, the first", Check.after("w1;l1:1;l2:1;l3:2;l4:4;l5:8;l6:16;l7:32").inTheWay(32), 1);
                Check.same("a part of a greater piece", Check.after("l1:64").inTheWay(1), 1);
            });
        Sentences.test(19, "Returns how many.", () -> {
            Check.same("none", new CheeseTwins().inTheWay(64), 0);
            Check.same("none, as a half is free", Check.after("l1:1").inTheWay(32), 0);
            Check.same("one", Check.after("l1:1").inTheWay(33), 1);
            Check.same("all 16", Check.after(SIXTEEN_OF_1).inTheWay(64), 16);
            Check.same("eight of 16", Check.after(SIXTEEN_OF_4).inTheWay(32), 8);
            Check.same("one of 16", Check.after(SIXTEEN_OF_4).inTheWay(1), 1);
        });
        Sentences.test(19, "Throws `IllegalArgumentException` if there is no such amount",
            () -> Check.range("inTheWay", "l1:1", 1, 64, VALUE, (x, amount) -> x.inTheWay(amount)));
    }

    private static void ranked() {
        Sentences.test(20, "Returns a name that has loans by the sizes of their pieces together: the most first, of "
            + "several the lowest.", () -> {
            CheeseTwins x = Check.after("l99:16;l50:5;l7:2;l0:3;l7:1;l50:8;l3:4;l8:1;q9:64");
            // 99 and 50 have 16, 0 and 3 have 4, 7 has 2 + 1, 8 has 1.
            int[] due = {50, 99, 0, 3, 7, 8};
            for (int place = 0; place < due.length; place++) {
                Check.same("ranked(" + place + ")", x.ranked(place), due[place]);
            }
            Check.same("by sizes, not by amounts", Check.after("l2:16;l1:17").ranked(0), 1);
            Check.same("by sizes, not by amounts", Check.after("l2:20;l1:17").ranked(0), 1);
            Check.same("together, not the greatest one", Check.after("l1:16;l2:8;l2:8;l2:1").ranked(0), 2);
            Check.same("each name once", Check.after("l7:4;l7:4;l5:4;l7:4").ranked(1), 5);
        });
        Sentences.test(20, "- `place`: the place, from 0", () -> {
            CheeseTwins x = Check.after(SIXTEEN_OF_4);
            for (int place = 0; place < 16; place++) {
                Check.same("ranked(" + place + ")", x.ranked(place), place);
            }
        });
        Sentences.test(20, "Returns the name.", () -> {
            Check.same("the least name", Check.after("l0:1").ranked(0), 0);
            Check.same("the greatest name", Check.after("l99:64").ranked(0), 99);
        });
        Sentences.test(20, "Throws `NoSuchElementException` if there is no such place", () -> {
            Check.range("one of 16", SIXTEEN_OF_1, 0, 15, ELEMENT, (x, place) -> x.ranked(place));
            Check.range("one name with 16 loans", "l1:4" + ";l1:4".repeat(15), 0, 0, ELEMENT, (x, place) -> x.ranked(place));
            Check.range("one who waits", SIX_WAIT, 0, 0, ELEMENT, (x, place) -> x.ranked(place));
            Check.range("none", "", 0, -1, ELEMENT, (x, place) -> x.ranked(place));
        });
    }
}
