import java.util.NoSuchElementException;

/** Promises 12 to 20: pieces, free and lent. */
public final class PiecesTest {
    private static final Class<IllegalArgumentException> VALUE = IllegalArgumentException.class;
    private static final Class<IndexOutOfBoundsException> INDEX = IndexOutOfBoundsException.class;
    private static final Class<NoSuchElementException> ELEMENT = NoSuchElementException.class;
    // 8=0 2=2 2. 4. 16=1 32.
    private static final String CUT = "l1:5;l2:12;l1:2";
    private static final int[] NO_AMOUNTS = {0, -1, 65, Integer.MIN_VALUE, Integer.MAX_VALUE};

    private PiecesTest() {
    }

    public static void main(String[] args) {
        pieceOf();
        free();
        greatest();
        would();
        cuts();
        fits();
        hole();
        inTheWay();
        ranked();
        Check.end();
    }

    private static void pieceOf() {
        CheeseTwins x = Check.after(CUT);
        Check.same("the pieces", Check.lineOf(x), "8=0 2=2 2. 4. 16=1 32.");
        int[][] due = {{0, 8, 0, 0, 8}, {7, 8, 0, 0, 8}, {8, 2, 8, 2, 10}, {9, 2, 8, 2, 10}, {11, 2, 10, -1, 8},
            {15, 4, 12, -1, 8}, {31, 16, 16, 1, 0}, {63, 32, 32, -1, 0}};
        for (int[] row : due) {
            for (int what = 0; what <= 3; what++) {
                Check.same("pieceOf(" + row[0] + ", " + what + ")", x.pieceOf(row[0], what), row[what + 1]);
            }
        }
        CheeseTwins board = new CheeseTwins();
        Check.same("pieceOf the board", board.pieceOf(40, 3), -1);
        Check.same("pieceOf the board", board.pieceOf(40, 1), 0);
        board.lend(1, 64);
        Check.same("pieceOf the lent board", board.pieceOf(40, 3), -1);
        Check.same("pieceOf the lent board", board.pieceOf(40, 2), 0);
        Check.failsIdle("pieceOf(-1, 9)", x, INDEX, () -> x.pieceOf(-1, 9));
        Check.failsIdle("pieceOf(64, 0)", x, INDEX, () -> x.pieceOf(64, 0));
        Check.failsIdle("pieceOf(0, 4)", x, VALUE, () -> x.pieceOf(0, 4));
        Check.failsIdle("pieceOf(0, -1)", x, VALUE, () -> x.pieceOf(0, -1));
    }

    private static void free() {
        CheeseTwins x = Check.after("l1:1;l2:1;l3:4;l4:1;l5:32;g1");
        Check.same("the pieces", Check.lineOf(x), "1=0 1. 1=2 1. 4=1 8. 16. 32=3");
        int[] due = {2, 0, 0, 1, 1, 0, 0};
        for (int i = 0; i < due.length; i++) {
            Check.same("free(" + (1 << i) + ", false)", x.free(1 << i, false), due[i]);
            Check.same("free(" + (1 << i) + ", true)", x.free(1 << i, true), due[i]);
        }
        CheeseTwins board = new CheeseTwins();
        for (int i = 0; i <= 6; i++) {
            Check.same("free of the board", board.free(1 << i, false), i == 6 ? 1 : 0);
            Check.same("free of the board, again", board.free(1 << i, true), i == 6 ? 1 : 0);
        }
        board.lend(1, 64);
        Check.same("free of nothing", board.free(64, true) + board.free(64, false), 0);
        int[] none = {0, -1, 3, 63, 65, 128, Integer.MIN_VALUE, Integer.MAX_VALUE};
        for (int size : none) {
            Check.failsIdle("free(" + size + ", false)", x, VALUE, () -> x.free(size, false));
            Check.failsIdle("free(" + size + ", true)", x, VALUE, () -> x.free(size, true));
        }
    }

    private static void greatest() {
        Check.same("greatest", new CheeseTwins().greatest(), 64);
        Check.same("greatest", Check.after("w1;l1:1").greatest(), 32);
        Check.same("greatest", Check.after("l1:32;l2:16;l3:15;g1").greatest(), 16);
        CheeseTwins full = Check.after("l1:64");
        Check.failsIdle("greatest", full, ELEMENT, full::greatest);
    }

    private static void would() {
        CheeseTwins x = Check.after(CUT);
        int[] due = {10, 10, 12, 12, 32, 32, 32, 32, 32};
        int[] amounts = {1, 2, 3, 4, 5, 8, 9, 17, 32};
        int[] upper = {11, 10, 12, 12, 56, 56, 48, 32, 32};
        for (int i = 0; i < amounts.length; i++) {
            Check.same("would(" + amounts[i] + ")", x.would(amounts[i]), due[i]);
        }
        x.way(1);
        for (int i = 0; i < amounts.length; i++) {
            Check.same("way 1: would(" + amounts[i] + ")", x.would(amounts[i]), upper[i]);
        }
        x.way(2);
        for (int amount : amounts) {
            Check.same("way 2: would(" + amount + ")", x.would(amount), 32);
        }
        CheeseTwins sixteen = Check.after("l1:1;l1:1;l1:1;l1:1;l1:1;l1:1;l1:1;l1:1;l1:1;l1:1;l1:1;l1:1;l1:1;l1:1;l1:1;l1:1");
        Check.same("would with 16 loans", sixteen.would(5), 16);
        failWithoutPiece("would", x, sixteen);
    }

    private static void failWithoutPiece(String what, CheeseTwins x, CheeseTwins other) {
        boolean isWould = what.equals("would");
        for (int amount : NO_AMOUNTS) {
            Check.failsIdle(what + "(" + amount + ")", x, VALUE, () -> call(x, isWould, amount));
        }
        Check.failsIdle(what + "(33)", x, ELEMENT, () -> call(x, isWould, 33));
        Check.failsIdle(what + "(64)", other, ELEMENT, () -> call(other, isWould, 64));
        CheeseTwins full = Check.after("l1:64");
        Check.failsIdle(what + "(1) on a full board", full, ELEMENT, () -> call(full, isWould, 1));
        Check.failsIdle(what + "(0) on a full board", full, VALUE, () -> call(full, isWould, 0));
    }

    private static int call(CheeseTwins x, boolean isWould, int amount) {
        return isWould ? x.would(amount) : x.cuts(amount);
    }

    private static void cuts() {
        CheeseTwins x = Check.after(CUT);
        int[] amounts = {1, 2, 3, 4, 5, 8, 9, 17, 32};
        int[] due = {1, 0, 0, 0, 2, 2, 1, 0, 0};
        int[] greatest = {5, 4, 3, 3, 2, 2, 1, 0, 0};
        for (int i = 0; i < amounts.length; i++) {
            Check.same("cuts(" + amounts[i] + ")", x.cuts(amounts[i]), due[i]);
        }
        x.way(2);
        for (int i = 0; i < amounts.length; i++) {
            Check.same("way 2: cuts(" + amounts[i] + ")", x.cuts(amounts[i]), greatest[i]);
        }
        Check.same("cuts(1) of the board", new CheeseTwins().cuts(1), 6);
        failWithoutPiece("cuts", x, Check.after("l1:1"));
    }

    private static void fits() {
        CheeseTwins x = Check.after(CUT);
        int[] amounts = {1, 2, 3, 4, 5, 8, 9, 16, 17, 32, 33, 64};
        int[] due = {38, 19, 9, 9, 4, 4, 2, 2, 1, 1, 0, 0};
        for (int i = 0; i < amounts.length; i++) {
            Check.same("fits(" + amounts[i] + ")", x.fits(amounts[i]), due[i]);
        }
        Check.same("fits(1) of the board", new CheeseTwins().fits(1), 64);
        Check.same("fits(1) of nothing", Check.after("l1:64").fits(1), 0);
        for (int amount : NO_AMOUNTS) {
            Check.failsIdle("fits(" + amount + ")", x, VALUE, () -> x.fits(amount));
        }
    }

    private static void hole() {
        CheeseTwins x = Check.after(CUT);
        Check.same("hole(0)", x.hole(0), 10);
        Check.same("hole(1)", x.hole(1), 12);
        Check.same("hole(2)", x.hole(2), 32);
        Check.failsIdle("hole(3)", x, ELEMENT, () -> x.hole(3));
        Check.failsIdle("hole(-1)", x, ELEMENT, () -> x.hole(-1));
        CheeseTwins full = Check.after("l1:64");
        Check.failsIdle("hole(0)", full, ELEMENT, () -> full.hole(0));
        Check.failsIdle("hole(-1)", full, ELEMENT, () -> full.hole(-1));
    }

    private static void inTheWay() {
        CheeseTwins x = Check.after("l1:1;l2:1;l3:2;l4:4;l5:8;l6:16;l7:8;l8:8;l9:16");
        Check.same("the pieces", Check.lineOf(x), "1=0 1=1 2=2 4=3 8=4 16=5 8=6 8=7 16=8");
        int[] amounts = {1, 4, 8, 9, 16, 17, 33, 64};
        int[] due = {1, 1, 1, 1, 1, 3, 9, 9};
        for (int i = 0; i < amounts.length; i++) {
            Check.same("inTheWay(" + amounts[i] + ")", x.inTheWay(amounts[i]), due[i]);
        }
        x.give(7);
        Check.same("inTheWay(8) with a piece", x.inTheWay(8), 0);
        Check.same("inTheWay(16) with a piece", x.inTheWay(16), 1);
        Check.same("inTheWay(32) with a piece", x.inTheWay(32), 2);
        Check.same("inTheWay(64) of nothing", new CheeseTwins().inTheWay(64), 0);
        Check.same("inTheWay(1) of a larger piece", Check.after("l1:64").inTheWay(1), 1);
        for (int amount : NO_AMOUNTS) {
            Check.failsIdle("inTheWay(" + amount + ")", x, VALUE, () -> x.inTheWay(amount));
        }
    }

    private static void ranked() {
        CheeseTwins x = Check.after("l50:5;l7:2;l99:16;l7:3;l0:2;l7:1;l50:8;l3:7");
        // 50 has 16, 7 has 2 + 4 + 1, 99 has 16, 0 has 2, 3 has 8.
        int[] due = {50, 99, 3, 7, 0};
        for (int place = 0; place < due.length; place++) {
            Check.same("ranked(" + place + ")", x.ranked(place), due[place]);
        }
        Check.failsIdle("ranked(5)", x, ELEMENT, () -> x.ranked(5));
        Check.failsIdle("ranked(-1)", x, ELEMENT, () -> x.ranked(-1));
        CheeseTwins none = new CheeseTwins();
        Check.failsIdle("ranked(0)", none, ELEMENT, () -> none.ranked(0));
        CheeseTwins waits = Check.after("l2:64;q1:64");
        Check.failsIdle("ranked(1), of one who waits", waits, ELEMENT, () -> waits.ranked(1));
    }
}
