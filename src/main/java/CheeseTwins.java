import java.util.NoSuchElementException;

/**
 * A cheese board of 64 units that is halved and joined: loans get pieces whose sizes are doubled, twins that are both
 * free are joined, and those to whom nothing can be lent wait.
 */
public final class CheeseTwins {
    private static final int UNITS = 64;
    private static final int MOST_LOANS = 16;
    private static final int MOST_WAITING = 6;
    private static final int GREATEST_NAME = 99;
    private static final int GREATEST_WAY = 2;
    private static final int UPPER_WAY = 1;
    private static final int MOST_SIGNS = 60;
    private static final int MOST_UNDONE = 8;
    // An order has two characters at least, and a semicolon between two of them: 20 of them fit into 60 characters.
    private static final int MOST_ORDERS = 20;
    // No line is longer: 64 pieces with a blank, two digits, "=" and two digits each.
    private static final int LONGEST_LINE = 6 * UNITS;

    private static final int FINE = 0;
    private static final int NO_INDEX = 1;
    private static final int NO_VALUE = 2;
    private static final int REFUSED = 3;

    private static final int TOO_MANY_LOANS = 1;
    private static final int NO_PIECE = 2;
    private static final int TOO_MANY_WAIT = 3;
    private static final int NO_LOANS = 4;
    private static final int SO_ALREADY = 5;

    private final Board board = new Board();
    private final Board beforeRun = new Board();
    private final Board snapshot = new Board();
    private final History history = new History();
    private final Line line = new Line();
    private final Orders orders = new Orders();
    private int lastError = -1;
    private boolean hasSnapshot = false;
    private int reason = 0;
    private int detail = 0;

    public CheeseTwins() {
    }

    // Loans

    public int lend(int name, int amount) throws IllegalArgumentException, UnsupportedOperationException {
        insist(judgeLend(name, amount));
        history.keep(board);
        return board.lendTo(name, amount);
    }

    public int ask(int name, int amount) throws IllegalArgumentException, UnsupportedOperationException {
        insist(judgeAsk(name, amount));
        history.keep(board);
        return board.lendOrQueue(name, amount);
    }

    public int give(int loan) throws IndexOutOfBoundsException {
        insist(judgeGive(loan));
        history.keep(board);
        return board.giveBack(loan);
    }

    public int giveAll(int name) throws IllegalArgumentException, UnsupportedOperationException {
        insist(judgeGiveAll(name));
        history.keep(board);
        return board.giveBackAll(name);
    }

    public int resize(int loan, int amount)
            throws IndexOutOfBoundsException, IllegalArgumentException, UnsupportedOperationException {
        insist(judgeResize(loan, amount));
        history.keep(board);
        return board.changeAmount(loan, amount);
    }

    public int way(int way) throws IllegalArgumentException, UnsupportedOperationException {
        insist(judgeWay(way));
        history.keep(board);
        return board.changeWay(way);
    }

    public int forget(int place) throws IndexOutOfBoundsException {
        if (!board.waiting.has(place)) {
            throw new IndexOutOfBoundsException("nobody waits at this place");
        }
        history.keep(board);
        board.waiting.remove(place);
        return board.waiting.count;
    }

    public int loanOf(int loan, int what) throws IndexOutOfBoundsException, IllegalArgumentException {
        Loans loans = board.loans;
        if (!loans.has(loan)) {
            throw new IndexOutOfBoundsException("no such loan");
        }
        switch (what) {
            case 0:
                return loans.nameAt(loan);
            case 1:
                return loans.amountAt(loan);
            case 2:
                return loans.startAt(loan);
            case 3:
                return loans.sizeAt(loan);
            case 4:
                return loans.sizeAt(loan) - loans.amountAt(loan);
            default:
                throw new IllegalArgumentException("no such number of a loan");
        }
    }

    public int nameOf(int name, int what) throws IllegalArgumentException, IndexOutOfBoundsException {
        if (!isName(name)) {
            throw new IllegalArgumentException("no such name");
        }
        switch (what) {
            case 0:
                return board.loans.countOf(name);
            case 1:
                return board.loans.amountsOf(name);
            case 2:
                return board.loans.sizesOf(name);
            case 3:
                return board.waiting.countOf(name);
            default:
                throw new IndexOutOfBoundsException("no such number of a name");
        }
    }

    public int waitingOf(int place, int what) throws NoSuchElementException, IllegalArgumentException {
        if (!board.waiting.has(place)) {
            throw new NoSuchElementException("nobody waits at this place");
        }
        switch (what) {
            case 0:
                return board.waiting.nameAt(place);
            case 1:
                return board.waiting.amountAt(place);
            default:
                throw new IllegalArgumentException("no such number of one who waits");
        }
    }

    // Pieces

    public int pieceOf(int unit, int what) throws IndexOutOfBoundsException, IllegalArgumentException {
        if (!isUnit(unit)) {
            throw new IndexOutOfBoundsException("no such unit");
        }
        int loan = board.loans.holderOf(unit);
        int start = board.pieceStart(unit);
        int size = board.pieceSize(unit);
        switch (what) {
            case 0:
                return size;
            case 1:
                return start;
            case 2:
                return loan;
            case 3:
                return size == UNITS ? -1 : twinOf(start, size);
            default:
                throw new IllegalArgumentException("no such number of a piece");
        }
    }

    public int free(int size, boolean isAgain) throws IllegalArgumentException {
        if (!isSize(size)) {
            throw new IllegalArgumentException("no such size");
        }
        return isAgain ? board.countFreeParts(size) : board.pieces.countOfSize(size);
    }

    public int greatest() throws NoSuchElementException {
        int size = board.pieces.greatestSize();
        if (size == 0) {
            throw new NoSuchElementException("nothing is free");
        }
        return size;
    }

    public int would(int amount) throws IllegalArgumentException, NoSuchElementException {
        int need = insistOnNeed(amount);
        int start = insistOnPiece(need);
        if (board.pieces.isUpperTaken()) {
            return start + board.pieces.sizeAt(start) - need;
        }
        return start;
    }

    public int cuts(int amount) throws IllegalArgumentException, NoSuchElementException {
        int need = insistOnNeed(amount);
        int start = insistOnPiece(need);
        int count = 0;
        for (int half = board.pieces.sizeAt(start) / 2; half >= need && half >= 1; half /= 2) {
            count++;
        }
        return count;
    }

    public int fits(int amount) throws IllegalArgumentException {
        return board.pieces.countRoomFor(insistOnNeed(amount));
    }

    public int hole(int place) throws NoSuchElementException {
        int start = board.pieces.startOfPlace(place);
        if (start < 0) {
            throw new NoSuchElementException("no such free piece");
        }
        return start;
    }

    public int inTheWay(int amount) throws IllegalArgumentException {
        return board.loans.fewestInPart(insistOnNeed(amount));
    }

    public int ranked(int place) throws NoSuchElementException {
        int name = board.loans.nameOfRank(place);
        if (name < 0) {
            throw new NoSuchElementException("no such name");
        }
        return name;
    }

    // Lines, texts, accounts, undo and snapshot

    public int line() {
        board.writePieces(line);
        return line.length;
    }

    public int map() {
        board.writeUnits(line);
        return line.length;
    }

    public char character(int index) throws IndexOutOfBoundsException {
        if (!line.has(index)) {
            throw new IndexOutOfBoundsException("no such index");
        }
        return line.signAt(index);
    }

    public int append(char c) throws IllegalStateException {
        if (orders.isFull()) {
            throw new IllegalStateException("the input is full");
        }
        orders.addSign(c);
        return orders.length;
    }

    public int run() throws IllegalArgumentException, UnsupportedOperationException {
        lastError = orders.read();
        orders.clearText();
        if (lastError >= 0) {
            throw new IllegalArgumentException("the text has an error");
        }
        beforeRun.copyFrom(board);
        int verdict = FINE;
        for (int order = 0; order < orders.count && verdict == FINE; order++) {
            verdict = judgeOrder(orders.kindAt(order), orders.firstAt(order), orders.secondAt(order));
            if (verdict == FINE) {
                carryOut(orders.kindAt(order), orders.firstAt(order), orders.secondAt(order));
            }
        }
        if (verdict != FINE) {
            board.copyFrom(beforeRun);
        }
        if (verdict == REFUSED) {
            throw new UnsupportedOperationException("an order is refused");
        }
        if (verdict != FINE) {
            throw new IllegalArgumentException("an order cannot be carried out");
        }
        history.keep(beforeRun);
        return orders.count;
    }

    public int errorPosition() {
        return lastError;
    }

    public int refusal(boolean isDetail) throws NoSuchElementException {
        if (reason == 0) {
            throw new NoSuchElementException("nothing was refused");
        }
        return isDetail ? detail : reason;
    }

    public int account(int what) throws IllegalArgumentException {
        switch (what) {
            case 0:
                return board.loans.count;
            case 1:
                return board.loans.allAmounts();
            case 2:
                return board.loans.allSizes();
            case 3:
                return board.pieces.countAll();
            case 4:
                return board.waiting.count;
            case 5:
                return board.loans.allSizes() - board.loans.allAmounts();
            case 6:
                return board.pieces.halvings;
            case 7:
                return board.pieces.joinings;
            case 8:
                return board.pieces.way;
            case 9:
                return orders.length;
            case 10:
                return history.count;
            default:
                throw new IllegalArgumentException("no such account");
        }
    }

    public boolean isWell() {
        return board.isCovered() && board.isCountedAlike() && board.loans.isEachNeedMet() && !board.isSomebodyLeft();
    }

    public double meanWaste() throws ArithmeticException {
        int count = board.loans.count;
        if (count <= 0) {
            throw new ArithmeticException("there are no loans");
        }
        return (double) (board.loans.allSizes() - board.loans.allAmounts()) / (double) count;
    }

    public float lentShare() {
        return (float) board.loans.allSizes() / (float) UNITS;
    }

    public int undo() throws IllegalStateException {
        if (history.count <= 0) {
            throw new IllegalStateException("no change can be undone");
        }
        history.takeBack(board);
        return history.count;
    }

    public int save() {
        snapshot.copyFrom(board);
        hasSnapshot = true;
        return board.loans.count;
    }

    public int restore() throws IllegalStateException {
        if (!hasSnapshot) {
            throw new IllegalStateException("there is no snapshot");
        }
        board.copyFrom(snapshot);
        history.clear();
        return board.loans.count;
    }

    // What the orders of a text and the methods for them share: a verdict ahead of each change

    private int judgeLend(int name, int amount) {
        if (!isName(name) || !isAmount(amount)) {
            return NO_VALUE;
        }
        if (board.loans.count >= MOST_LOANS) {
            return refuse(TOO_MANY_LOANS, board.loans.count);
        }
        int greatestSize = board.pieces.greatestSize();
        return greatestSize < needOf(amount) ? refuse(NO_PIECE, greatestSize) : FINE;
    }

    private int judgeAsk(int name, int amount) {
        if (!isName(name) || !isAmount(amount)) {
            return NO_VALUE;
        }
        if (!board.canLend(amount) && board.waiting.count >= MOST_WAITING) {
            return refuse(TOO_MANY_WAIT, board.waiting.count);
        }
        return FINE;
    }

    private int judgeGive(int loan) {
        return board.loans.has(loan) ? FINE : NO_INDEX;
    }

    private int judgeGiveAll(int name) {
        if (!isName(name)) {
            return NO_VALUE;
        }
        return board.loans.countOf(name) == 0 ? refuse(NO_LOANS, board.waiting.countOf(name)) : FINE;
    }

    private int judgeResize(int loan, int amount) {
        if (!board.loans.has(loan)) {
            return NO_INDEX;
        }
        if (!isAmount(amount)) {
            return NO_VALUE;
        }
        if (board.loans.amountAt(loan) == amount) {
            return refuse(SO_ALREADY, amount);
        }
        int greatestSize = board.greatestSizeWithout(loan);
        return greatestSize < needOf(amount) ? refuse(NO_PIECE, greatestSize) : FINE;
    }

    private int judgeWay(int way) {
        if (way < 0 || way > GREATEST_WAY) {
            return NO_VALUE;
        }
        return board.pieces.way == way ? refuse(SO_ALREADY, way) : FINE;
    }

    private int refuse(int newReason, int newDetail) {
        reason = newReason;
        detail = newDetail;
        return REFUSED;
    }

    private static void insist(int verdict) {
        if (verdict == NO_INDEX) {
            throw new IndexOutOfBoundsException("no such loan");
        }
        if (verdict == NO_VALUE) {
            throw new IllegalArgumentException("no such name, amount or way");
        }
        if (verdict == REFUSED) {
            throw new UnsupportedOperationException("refused");
        }
    }

    private static int insistOnNeed(int amount) {
        if (!isAmount(amount)) {
            throw new IllegalArgumentException("no such amount");
        }
        return needOf(amount);
    }

    private int insistOnPiece(int need) {
        int start = board.pieces.find(need);
        if (start < 0) {
            throw new NoSuchElementException("no free piece is large enough");
        }
        return start;
    }

    private int judgeOrder(int kind, int first, int second) {
        switch (kind) {
            case 'l':
                return judgeLend(first, second);
            case 'q':
                return judgeAsk(first, second);
            case 'g':
                return judgeGive(first);
            case 'n':
                return judgeGiveAll(first);
            case 'r':
                return judgeResize(first, second);
            case 'w':
                return judgeWay(first);
            default:
                return NO_VALUE;
        }
    }

    private void carryOut(int kind, int first, int second) {
        switch (kind) {
            case 'l':
                board.lendTo(first, second);
                break;
            case 'q':
                board.lendOrQueue(first, second);
                break;
            case 'g':
                board.giveBack(first);
                break;
            case 'n':
                board.giveBackAll(first);
                break;
            case 'r':
                board.changeAmount(first, second);
                break;
            case 'w':
                board.changeWay(first);
                break;
            default:
                break;
        }
    }

    // Terms of the document

    private static boolean isName(int name) {
        return name >= 0 && name <= GREATEST_NAME;
    }

    private static boolean isAmount(int amount) {
        return amount >= 1 && amount <= UNITS;
    }

    private static boolean isUnit(int unit) {
        return unit >= 0 && unit < UNITS;
    }

    private static boolean isSize(int size) {
        return size >= 1 && size <= UNITS && (size & (size - 1)) == 0;
    }

    private static int needOf(int amount) {
        int need = 1;
        while (need < amount && need < UNITS) {
            need *= 2;
        }
        return need;
    }

    /** Returns the first unit of the part of this size that has the unit. */
    private static int partOf(int unit, int size) {
        return unit & -size;
    }

    private static int twinOf(int unit, int size) {
        return partOf(unit, size) ^ size;
    }

    /** All that changes can change. */
    private static final class Board {
        final Pieces pieces = new Pieces();
        final Loans loans = new Loans();
        final Waiting waiting = new Waiting();

        void copyFrom(Board other) {
            pieces.copyFrom(other.pieces);
            loans.copyFrom(other.loans);
            waiting.copyFrom(other.waiting);
        }

        boolean canLend(int amount) {
            return loans.count < MOST_LOANS && pieces.greatestSize() >= needOf(amount);
        }

        int lendTo(int name, int amount) {
            int need = needOf(amount);
            int start = pieces.take(need);
            return loans.add(name, amount, start, need);
        }

        int lendOrQueue(int name, int amount) {
            if (canLend(amount)) {
                return loans.startAt(lendTo(name, amount));
            }
            waiting.add(name, amount);
            return -1;
        }

        int giveBack(int loan) {
            releaseLoan(loan);
            return serveWaiting();
        }

        int giveBackAll(int name) {
            int given = 0;
            for (int loan = loans.count - 1; loan >= 0; loan--) {
                if (loans.nameAt(loan) == name) {
                    releaseLoan(loan);
                    given++;
                }
            }
            serveWaiting();
            return given;
        }

        private void releaseLoan(int loan) {
            int start = loans.startAt(loan);
            int size = loans.sizeAt(loan);
            loans.remove(loan);
            pieces.release(start, size);
        }

        int changeAmount(int loan, int amount) {
            int need = needOf(amount);
            int start = loans.startAt(loan);
            int size = loans.sizeAt(loan);
            if (need < size) {
                start = pieces.cutDown(start, size, need);
            }
            if (need > size) {
                pieces.release(start, size);
                start = pieces.take(need);
            }
            loans.put(loan, amount, start, need);
            if (need != size) {
                serveWaiting();
            }
            return start;
        }

        int changeWay(int way) {
            int before = pieces.way;
            pieces.way = way;
            serveWaiting();
            return before;
        }

        /** Goes once through those who wait; whoever is lent to leaves, so the next one has the same place. */
        private int serveWaiting() {
            int served = 0;
            int asked = waiting.count;
            for (int i = 0; i < asked; i++) {
                int place = i - served;
                if (canLend(waiting.amountAt(place))) {
                    lendTo(waiting.nameAt(place), waiting.amountAt(place));
                    waiting.remove(place);
                    served++;
                }
            }
            return served;
        }

        /** Returns the size of the greatest free piece if the loan's own piece counts as free. */
        int greatestSizeWithout(int loan) {
            int own = pieces.joinedSize(loans.startAt(loan), loans.sizeAt(loan));
            return Math.max(own, pieces.greatestSize());
        }

        int pieceStart(int unit) {
            int loan = loans.holderOf(unit);
            return loan >= 0 ? loans.startAt(loan) : pieces.startOf(unit);
        }

        int pieceSize(int unit) {
            int loan = loans.holderOf(unit);
            return loan >= 0 ? loans.sizeAt(loan) : pieces.sizeAt(pieces.startOf(unit));
        }

        /** Counts the free pieces of a size from the loans alone. */
        int countFreeParts(int size) {
            int count = 0;
            for (int start = 0; size >= 1 && start < UNITS; start += size) {
                if (loans.countIn(start, size) == 0 && isBoardOrHalfOfMixed(start, size)) {
                    count++;
                }
            }
            return count;
        }

        private boolean isBoardOrHalfOfMixed(int start, int size) {
            return size == UNITS || loans.countIn(partOf(start, 2 * size), 2 * size) > 0;
        }

        boolean isCovered() {
            for (int unit = 0; unit < UNITS; unit++) {
                if (loans.countIn(unit, 1) + pieces.countWith(unit) != 1) {
                    return false;
                }
            }
            return true;
        }

        boolean isCountedAlike() {
            for (int size = 1; size <= UNITS; size *= 2) {
                if (pieces.countOfSize(size) != countFreeParts(size)) {
                    return false;
                }
            }
            return true;
        }

        boolean isSomebodyLeft() {
            for (int place = 0; place < waiting.count; place++) {
                if (canLend(waiting.amountAt(place))) {
                    return true;
                }
            }
            return false;
        }

        void writePieces(Line line) {
            line.clear();
            for (int unit = 0; unit < UNITS; unit++) {
                if (pieceStart(unit) == unit) {
                    if (unit > 0) {
                        line.put(' ');
                    }
                    writePiece(line, unit);
                }
            }
        }

        private void writePiece(Line line, int unit) {
            int loan = loans.holderOf(unit);
            line.putNumber(pieceSize(unit));
            if (loan < 0) {
                line.put('.');
            } else {
                line.put('=');
                line.putNumber(loan);
            }
        }

        void writeUnits(Line line) {
            line.clear();
            for (int unit = 0; unit < UNITS; unit++) {
                int loan = loans.holderOf(unit);
                line.put(loan < 0 ? '.' : (char) ('a' + loan));
            }
        }
    }

    /** The free pieces, how one is found, and how often one was halved or joined. */
    private static final class Pieces {
        // The size of the free piece that begins at the unit, or 0.
        private final int[] sizes = new int[UNITS];
        int way = 0;
        int halvings = 0;
        int joinings = 0;

        Pieces() {
            sizes[0] = UNITS;
        }

        void copyFrom(Pieces other) {
            System.arraycopy(other.sizes, 0, sizes, 0, UNITS);
            way = other.way;
            halvings = other.halvings;
            joinings = other.joinings;
        }

        int sizeAt(int start) {
            return start >= 0 && start < UNITS ? sizes[start] : 0;
        }

        private void setSize(int start, int size) {
            if (start >= 0 && start < UNITS) {
                sizes[start] = size;
            }
        }

        boolean isUpperTaken() {
            return way == UPPER_WAY;
        }

        /** Returns the first unit of the free piece that the way finds, or -1 if none is large enough. */
        int find(int need) {
            int found = -1;
            int foundSize = 0;
            for (int start = 0; start < UNITS; start++) {
                int size = sizes[start];
                if (size >= need && size > 0 && (found < 0 || isPreferred(size, foundSize))) {
                    found = start;
                    foundSize = size;
                }
            }
            return found;
        }

        /** Tells whether a free piece is preferred to one of the other size that begins at a lower unit. */
        private boolean isPreferred(int size, int other) {
            switch (way) {
                case 0:
                    return size < other;
                case 1:
                    return size <= other;
                default:
                    return size > other;
            }
        }

        /** Takes a piece of the size away from the free ones; returns its first unit, or -1. */
        int take(int need) {
            int start = find(need);
            if (start < 0) {
                return -1;
            }
            int size = sizeAt(start);
            setSize(start, 0);
            return cutDown(start, size, need);
        }

        /** Halves a piece that is not free; the halves that are not gone on with become free. */
        int cutDown(int start, int size, int need) {
            int at = start;
            for (int half = size / 2; half >= need && half >= 1; half /= 2) {
                halvings++;
                if (isUpperTaken()) {
                    setSize(at, half);
                    at += half;
                } else {
                    setSize(at + half, half);
                }
            }
            return at;
        }

        /** Lets a piece become free and joins it. */
        void release(int start, int size) {
            int joined = joinedSize(start, size);
            for (int part = size; part >= 1 && part < joined; part *= 2) {
                setSize(twinOf(start, part), 0);
                joinings++;
            }
            setSize(partOf(start, joined), joined);
        }

        /** Returns the size that a piece would have, joined, if it became free. */
        int joinedSize(int start, int size) {
            int part = size;
            while (part >= 1 && part < UNITS && sizeAt(twinOf(start, part)) == part) {
                part *= 2;
            }
            return part;
        }

        int greatestSize() {
            int size = 0;
            for (int start = 0; start < UNITS; start++) {
                size = Math.max(size, sizes[start]);
            }
            return size;
        }

        int countOfSize(int size) {
            int count = 0;
            for (int start = 0; start < UNITS; start++) {
                if (sizes[start] == size) {
                    count++;
                }
            }
            return count;
        }

        int countAll() {
            return UNITS - countOfSize(0);
        }

        int countRoomFor(int need) {
            int count = 0;
            for (int start = 0; need >= 1 && start < UNITS; start++) {
                count += sizes[start] / need;
            }
            return count;
        }

        /** Returns the first unit of the free piece at a place in the order of the units, or -1. */
        int startOfPlace(int place) {
            int at = -1;
            for (int start = 0; start < UNITS; start++) {
                if (sizes[start] > 0) {
                    at++;
                    if (at == place) {
                        return start;
                    }
                }
            }
            return -1;
        }

        /** Returns the first unit of the free piece that has the unit, or -1. */
        int startOf(int unit) {
            for (int start = 0; start < UNITS; start++) {
                if (isWithin(unit, start, sizes[start])) {
                    return start;
                }
            }
            return -1;
        }

        int countWith(int unit) {
            int count = 0;
            for (int start = 0; start < UNITS; start++) {
                if (isWithin(unit, start, sizes[start])) {
                    count++;
                }
            }
            return count;
        }

        private static boolean isWithin(int unit, int start, int size) {
            return start <= unit && unit < start + size;
        }
    }

    /** The loans with their pieces, in the order of their numbers. */
    private static final class Loans {
        private final int[] names = new int[MOST_LOANS];
        private final int[] amounts = new int[MOST_LOANS];
        private final int[] starts = new int[MOST_LOANS];
        private final int[] sizes = new int[MOST_LOANS];
        int count = 0;

        void copyFrom(Loans other) {
            System.arraycopy(other.names, 0, names, 0, MOST_LOANS);
            System.arraycopy(other.amounts, 0, amounts, 0, MOST_LOANS);
            System.arraycopy(other.starts, 0, starts, 0, MOST_LOANS);
            System.arraycopy(other.sizes, 0, sizes, 0, MOST_LOANS);
            count = other.count;
        }

        boolean has(int loan) {
            return loan >= 0 && loan < count && loan < MOST_LOANS;
        }

        int nameAt(int loan) {
            return has(loan) ? names[loan] : -1;
        }

        int amountAt(int loan) {
            return has(loan) ? amounts[loan] : 0;
        }

        int startAt(int loan) {
            return has(loan) ? starts[loan] : -1;
        }

        int sizeAt(int loan) {
            return has(loan) ? sizes[loan] : 0;
        }

        /** Adds the last loan and returns its number, or -1 if there is no room or no piece. */
        int add(int name, int amount, int start, int size) {
            if (start < 0 || count < 0 || count >= MOST_LOANS) {
                return -1;
            }
            names[count] = name;
            count++;
            put(count - 1, amount, start, size);
            return count - 1;
        }

        void put(int loan, int amount, int start, int size) {
            if (has(loan)) {
                amounts[loan] = amount;
                starts[loan] = start;
                sizes[loan] = size;
            }
        }

        void remove(int loan) {
            if (!has(loan)) {
                return;
            }
            for (int i = loan; i < count - 1 && i < MOST_LOANS - 1; i++) {
                names[i] = names[i + 1];
                amounts[i] = amounts[i + 1];
                starts[i] = starts[i + 1];
                sizes[i] = sizes[i + 1];
            }
            count--;
        }

        int countOf(int name) {
            int number = 0;
            for (int loan = 0; loan < count; loan++) {
                if (nameAt(loan) == name) {
                    number++;
                }
            }
            return number;
        }

        int amountsOf(int name) {
            int sum = 0;
            for (int loan = 0; loan < count; loan++) {
                if (nameAt(loan) == name) {
                    sum += amountAt(loan);
                }
            }
            return sum;
        }

        int sizesOf(int name) {
            int sum = 0;
            for (int loan = 0; loan < count; loan++) {
                if (nameAt(loan) == name) {
                    sum += sizeAt(loan);
                }
            }
            return sum;
        }

        int allAmounts() {
            int sum = 0;
            for (int loan = 0; loan < count; loan++) {
                sum += amountAt(loan);
            }
            return sum;
        }

        int allSizes() {
            int sum = 0;
            for (int loan = 0; loan < count; loan++) {
                sum += sizeAt(loan);
            }
            return sum;
        }

        /** Returns the loan whose piece has the unit, or -1. */
        int holderOf(int unit) {
            for (int loan = 0; loan < count; loan++) {
                if (isIn(loan, unit, 1)) {
                    return loan;
                }
            }
            return -1;
        }

        /** Counts the loans whose pieces have a unit of the part. */
        int countIn(int start, int size) {
            int number = 0;
            for (int loan = 0; loan < count; loan++) {
                if (isIn(loan, start, size)) {
                    number++;
                }
            }
            return number;
        }

        private boolean isIn(int loan, int start, int size) {
            return has(loan) && starts[loan] < start + size && start < starts[loan] + sizes[loan];
        }

        int fewestInPart(int size) {
            int fewest = count;
            for (int start = 0; size >= 1 && start < UNITS; start += size) {
                fewest = Math.min(fewest, countIn(start, size));
            }
            return fewest;
        }

        /** Returns the name at a place of the ranking, or -1. */
        int nameOfRank(int place) {
            for (int loan = 0; loan < count; loan++) {
                if (countAhead(nameAt(loan)) == place) {
                    return nameAt(loan);
                }
            }
            return -1;
        }

        private int countAhead(int name) {
            int own = sizesOf(name);
            int ahead = 0;
            for (int loan = 0; loan < count; loan++) {
                int other = nameAt(loan);
                int held = sizesOf(other);
                if (isFirstOfName(loan) && (held > own || held == own && other < name)) {
                    ahead++;
                }
            }
            return ahead;
        }

        private boolean isFirstOfName(int loan) {
            for (int i = 0; i < loan; i++) {
                if (nameAt(i) == nameAt(loan)) {
                    return false;
                }
            }
            return true;
        }

        /** Tells whether each piece is large enough and the next smaller size would not be. */
        boolean isEachNeedMet() {
            for (int loan = 0; loan < count; loan++) {
                if (sizeAt(loan) < amountAt(loan) || sizeAt(loan) / 2 >= amountAt(loan)) {
                    return false;
                }
            }
            return true;
        }
    }

    /** Those who wait, in their order. */
    private static final class Waiting {
        private final int[] names = new int[MOST_WAITING];
        private final int[] amounts = new int[MOST_WAITING];
        int count = 0;

        void copyFrom(Waiting other) {
            System.arraycopy(other.names, 0, names, 0, MOST_WAITING);
            System.arraycopy(other.amounts, 0, amounts, 0, MOST_WAITING);
            count = other.count;
        }

        boolean has(int place) {
            return place >= 0 && place < count && place < MOST_WAITING;
        }

        int nameAt(int place) {
            return has(place) ? names[place] : -1;
        }

        int amountAt(int place) {
            return has(place) ? amounts[place] : 0;
        }

        void add(int name, int amount) {
            if (count >= 0 && count < MOST_WAITING) {
                names[count] = name;
                amounts[count] = amount;
                count++;
            }
        }

        void remove(int place) {
            if (!has(place)) {
                return;
            }
            for (int i = place; i < count - 1 && i < MOST_WAITING - 1; i++) {
                names[i] = names[i + 1];
                amounts[i] = amounts[i + 1];
            }
            count--;
        }

        int countOf(int name) {
            int number = 0;
            for (int place = 0; place < count; place++) {
                if (nameAt(place) == name) {
                    number++;
                }
            }
            return number;
        }
    }

    /** The boards ahead of the latest changes, in a ring, so that the oldest one gives way to a new one. */
    private static final class History {
        private final Board[] ring = new Board[MOST_UNDONE];
        private int next = 0;
        int count = 0;

        History() {
            for (int i = 0; i < MOST_UNDONE; i++) {
                ring[i] = new Board();
            }
        }

        void keep(Board board) {
            Board kept = keptAt(next);
            if (kept != null) {
                kept.copyFrom(board);
                next = next + 1 < MOST_UNDONE ? next + 1 : 0;
                count = Math.min(count + 1, MOST_UNDONE);
            }
        }

        void takeBack(Board board) {
            int latest = next > 0 ? next - 1 : MOST_UNDONE - 1;
            Board kept = keptAt(latest);
            if (kept != null && count > 0) {
                board.copyFrom(kept);
                next = latest;
                count--;
            }
        }

        private Board keptAt(int index) {
            return index >= 0 && index < MOST_UNDONE ? ring[index] : null;
        }

        void clear() {
            count = 0;
        }
    }

    /** The line that was written last. */
    private static final class Line {
        private final char[] signs = new char[LONGEST_LINE];
        int length = 0;

        void clear() {
            length = 0;
        }

        boolean has(int index) {
            return index >= 0 && index < length && index < LONGEST_LINE;
        }

        char signAt(int index) {
            return has(index) ? signs[index] : ' ';
        }

        void put(char sign) {
            if (length >= 0 && length < LONGEST_LINE) {
                signs[length] = sign;
                length++;
            }
        }

        /** Writes a number of one or two digits. */
        void putNumber(int number) {
            if (number >= 10) {
                put((char) ('0' + number / 10));
            }
            put((char) ('0' + number % 10));
        }
    }

    /** The input, and the orders that were read from it: what each is, and its numbers. */
    private static final class Orders {
        private final int[] kinds = new int[MOST_ORDERS];
        private final int[] firsts = new int[MOST_ORDERS];
        private final int[] seconds = new int[MOST_ORDERS];
        int count = 0;
        private final char[] text = new char[MOST_SIGNS];
        int length = 0;
        private int at = 0;
        private int number = 0;

        int kindAt(int order) {
            return has(order) ? kinds[order] : 0;
        }

        int firstAt(int order) {
            return has(order) ? firsts[order] : 0;
        }

        int secondAt(int order) {
            return has(order) ? seconds[order] : 0;
        }

        private boolean has(int order) {
            return order >= 0 && order < count && order < MOST_ORDERS;
        }

        boolean isFull() {
            return length >= MOST_SIGNS;
        }

        void addSign(char sign) {
            if (length >= 0 && length < MOST_SIGNS) {
                text[length] = sign;
                length++;
            }
        }

        void clearText() {
            length = 0;
        }

        /** Reads the input; returns its error position, or -1. */
        int read() {
            at = 0;
            count = 0;
            for (int order = 0; order < MOST_ORDERS; order++) {
                if (!readOrder(order)) {
                    return at;
                }
                count = order + 1;
                if (at == length) {
                    return -1;
                }
                if (!readSign(';')) {
                    return at;
                }
            }
            return at;
        }

        // Each of these leaves the place at the first character that cannot continue the text, if there is one.

        private boolean readOrder(int order) {
            int kind = sign();
            if (!isKind(kind)) {
                return false;
            }
            at++;
            if (kind == 'w' ? !readDigit() : !readNumber()) {
                return false;
            }
            int first = number;
            int second = 0;
            if (hasAmount(kind)) {
                if (!readSign(':') || !readNumber()) {
                    return false;
                }
                second = number;
            }
            put(order, kind, first, second);
            return true;
        }

        private static boolean isKind(int kind) {
            return hasAmount(kind) || kind == 'g' || kind == 'n' || kind == 'w';
        }

        private static boolean hasAmount(int kind) {
            return kind == 'l' || kind == 'q' || kind == 'r';
        }

        private void put(int order, int kind, int first, int second) {
            if (order >= 0 && order < MOST_ORDERS) {
                kinds[order] = kind;
                firsts[order] = first;
                seconds[order] = second;
            }
        }

        private boolean readNumber() {
            if (!readDigit()) {
                return false;
            }
            int tens = number;
            if (readDigit()) {
                number = 10 * tens + number;
            }
            return true;
        }

        private boolean readDigit() {
            int digit = sign() - '0';
            if (digit < 0 || digit > 9) {
                return false;
            }
            number = digit;
            at++;
            return true;
        }

        private boolean readSign(int due) {
            if (sign() != due) {
                return false;
            }
            at++;
            return true;
        }

        /** Returns the character at the place, or -1 behind the text. */
        private int sign() {
            return at >= 0 && at < length && at < MOST_SIGNS ? text[at] : -1;
        }
    }
}
