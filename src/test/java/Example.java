/** The example of README.md. Behind each call that is printed stands what it answers, and what that means. */
public final class Example {
    private Example() {
    }

    public static void main(String[] args) {
        lendAndGive(new CheeseTwins());
        askAboutPieces(new CheeseTwins());
        carryOutTexts(new CheeseTwins());
        undoAndRestore(new CheeseTwins());
    }

    private static void lendAndGive(CheeseTwins board) {
        System.out.println(board.lend(7, 5));          // 0: the name 7 has the loan 0, a piece of 8 units
        System.out.println(board.loanOf(0, 4));        // 3: units of it are wasted
        System.out.println(board.ask(8, 40));          // -1: no piece is large enough, so the name 8 waits
        System.out.println(board.ask(9, 30));          // 32: the first unit of the piece that 9 has
        System.out.println(board.resize(0, 16));       // 0: the first unit of the loan's greater piece
        System.out.println(lineOf(board));             // 16=0 16. 32=1
        System.out.println(board.giveAll(9));          // 1: loan is given back; 8 goes on waiting
        System.out.println(board.waitingOf(0, 1));     // 40: the amount that 8 waits for
        System.out.println(board.give(0));             // 1: who waited is lent to, as the board is whole again
        System.out.println(board.nameOf(8, 2));        // 64: units are in the pieces of 8
        System.out.println(board.meanWaste());         // 24.0
        System.out.println(board.ask(9, 1));           // -1: nothing is free, so 9 waits
        System.out.println(board.forget(0));           // 0: wait, as 9 no longer does
    }

    private static void askAboutPieces(CheeseTwins board) {
        System.out.println(board.way(1));              // 0: the way before
        board.lend(1, 4);
        board.lend(2, 16);
        System.out.println(lineOf(board));             // 32. 16=1 8. 4. 4=0
        System.out.println(mapOf(board).length());     // 64
        System.out.println(board.pieceOf(63, 3));      // 56: where the twin of the piece with the unit 63 begins
        System.out.println(board.free(8, false));      // 1: free piece of 8 units
        System.out.println(board.greatest());          // 32
        System.out.println(board.would(3));            // 56: where a loan of 3 would be
        System.out.println(board.cuts(2));             // 1: piece would be halved for a loan of 2
        System.out.println(board.fits(4));             // 11: loans of 4 have room
        System.out.println(board.hole(1));             // 48: where the second free piece begins
        System.out.println(board.inTheWay(64));        // 2: loans are in the way of one of 64
        System.out.println(board.ranked(0));           // 2: the name with the most units
        System.out.println(board.lentShare());         // 0.3125
        System.out.println(board.account(6));          // 4: halvings so far
        System.out.println(board.isWell());            // true
        try {
            board.lend(3, 33);
        } catch (UnsupportedOperationException e) {
            System.out.println(board.refusal(false));  // 2: the reason, no free piece is large enough
            System.out.println(board.refusal(true));   // 32: the detail, the size of the greatest one
        }
    }

    private static void carryOutTexts(CheeseTwins board) {
        type(board, "l1:5;q2:64;g0;w2");
        System.out.println(board.run());               // 4: orders are carried out
        System.out.println(lineOf(board));             // 64=0
        try {
            type(board, "g0;l1:x");
            board.run();
        } catch (IllegalArgumentException e) {
            System.out.println(board.errorPosition()); // 6: a digit is due there, and nothing is carried out
        }
    }

    private static void undoAndRestore(CheeseTwins board) {
        board.lend(1, 20);
        System.out.println(board.save());              // 1: loan is in the snapshot
        board.lend(2, 10);
        board.give(0);
        System.out.println(board.undo());              // 2: changes can still be undone
        System.out.println(lineOf(board));             // 32=0 16=1 16.
        System.out.println(board.restore());           // 1: loan is there, as in the snapshot
        System.out.println(lineOf(board));             // 32=0 32.
    }

    private static void type(CheeseTwins board, String text) {
        for (char c : text.toCharArray()) {
            board.append(c);
        }
    }

    private static String lineOf(CheeseTwins board) {
        return written(board, board.line());
    }

    private static String mapOf(CheeseTwins board) {
        return written(board, board.map());
    }

    private static String written(CheeseTwins board, int length) {
        StringBuilder text = new StringBuilder();
        for (int i = 0; i < length; i++) {
            text.append(board.character(i));
        }
        return text.toString();
    }
}
