import java.util.ArrayDeque;
import java.util.ArrayList;
import java.util.Collections;
import java.util.Deque;
import java.util.List;
import java.util.TreeMap;
import java.util.regex.Matcher;
import java.util.regex.Pattern;

/**
 * A second program for the same document, held in another way: the units know their loan, and the free pieces are found
 * from them, as the greatest free parts; answers are texts, "throws.X" for an exception X.
 */
final class Model {
    private static final Pattern TEXT = Pattern.compile("O(;O)*".replace("O", "([lqr]\\d\\d?:\\d\\d?|[gn]\\d\\d?|w\\d)"));

    private static final class Fault extends RuntimeException {
        private static final long serialVersionUID = 1L;

        Fault(String name) {
            super("throws." + name);
        }
    }

    private static final class State {
        List<int[]> loans = new ArrayList<>();      // name, amount, start, size
        List<int[]> waiting = new ArrayList<>();    // name, amount
        int way = 0;
        int halvings = 0;
        int joinings = 0;

        State copy() {
            State copy = new State();
            loans.forEach(loan -> copy.loans.add(loan.clone()));
            waiting.forEach(one -> copy.waiting.add(one.clone()));
            copy.way = way;
            copy.halvings = halvings;
            copy.joinings = joinings;
            return copy;
        }
    }

    private State state = new State();
    private State saved = null;
    private final Deque<State> past = new ArrayDeque<>();
    private String line = "";
    private String input = "";
    private int error = -1;
    private int reason = 0;
    private int detail = 0;

    String call(String method, int a, int b) {
        try {
            return String.valueOf(answer(method, a, b));
        } catch (Fault e) {
            return e.getMessage();
        }
    }

    private Object answer(String method, int a, int b) {
        switch (method) {
            case "lend": case "ask": case "give": case "giveAll": case "resize": case "way": case "forget":
                State before = state.copy();
                int answer;
                try {
                    answer = change(method, a, b);
                } catch (Fault e) {
                    state = before;
                    throw e;
                }
                remember(before);
                return answer;
            case "run":
                return run();
            case "append":
                need(input.length() < 60, "IllegalStateException");
                input += (char) a;
                return input.length();
            case "undo":
                need(!past.isEmpty(), "IllegalStateException");
                state = past.pollLast();
                return past.size();
            case "save":
                saved = state.copy();
                return state.loans.size();
            case "restore":
                need(saved != null, "IllegalStateException");
                state = saved.copy();
                past.clear();
                return state.loans.size();
            case "line":
                line = String.join(" ", pieceTexts());
                return line.length();
            case "map":
                line = mapText();
                return line.length();
            default:
                return question(method, a, b);
        }
    }

    private Object question(String method, int a, int b) {
        switch (method) {
            case "loanOf": {
                need(a >= 0 && a < state.loans.size(), "IndexOutOfBoundsException");
                need(b >= 0 && b <= 4, "IllegalArgumentException");
                int[] loan = state.loans.get(a);
                return b == 4 ? loan[3] - loan[1] : loan[b];
            }
            case "nameOf": {
                need(a >= 0 && a <= 99, "IllegalArgumentException");
                need(b >= 0 && b <= 3, "IndexOutOfBoundsException");
                if (b == 3) {
                    return (int) state.waiting.stream().filter(one -> one[0] == a).count();
                }
                return state.loans.stream().filter(loan -> loan[0] == a).mapToInt(loan -> b == 0 ? 1 : loan[2 * b - 1]).sum();
            }
            case "waitingOf":
                need(a >= 0 && a < state.waiting.size(), "NoSuchElementException");
                need(b >= 0 && b <= 1, "IllegalArgumentException");
                return state.waiting.get(a)[b];
            case "pieceOf":
                return pieceNumber(a, b);
            case "free":
                need(List.of(1, 2, 4, 8, 16, 32, 64).contains(a), "IllegalArgumentException");
                return (int) freePieces().stream().filter(piece -> piece[1] == a).count();
            case "greatest":
                need(greatest() > 0, "NoSuchElementException");
                return greatest();
            case "would": {
                need(isAmount(a), "IllegalArgumentException");
                need(greatest() >= a, "NoSuchElementException");
                State before = state.copy();
                int start = take(a);
                state = before;
                return start;
            }
            case "cuts": {
                need(isAmount(a), "IllegalArgumentException");
                need(greatest() >= a, "NoSuchElementException");
                State before = state.copy();
                take(a);
                int count = state.halvings - before.halvings;
                state = before;
                return count;
            }
            case "fits":
                need(isAmount(a), "IllegalArgumentException");
                return fits(a);
            case "hole":
                need(a >= 0 && a < freePieces().size(), "NoSuchElementException");
                return freePieces().get(a)[0];
            case "inTheWay":
                need(isAmount(a), "IllegalArgumentException");
                return inTheWay(a);
            case "ranked":
                need(a >= 0 && a < ranking().size(), "NoSuchElementException");
                return ranking().get(a);
            case "character":
                need(a >= 0 && a < line.length(), "IndexOutOfBoundsException");
                return (int) line.charAt(a);
            case "errorPosition":
                return error;
            case "refusal":
                need(reason > 0, "NoSuchElementException");
                return a == 1 ? detail : reason;
            case "account":
                need(a >= 0 && a <= 10, "IllegalArgumentException");
                return account(a);
            case "isWell":
                return true;
            case "meanWaste":
                need(!state.loans.isEmpty(), "ArithmeticException");
                return (double) account(5) / (double) state.loans.size();
            case "lentShare":
                return account(2) / 64f;
            default:
                throw new IllegalStateException(method);
        }
    }

    private static void need(boolean isSo, String otherwise) {
        if (!isSo) {
            throw new Fault(otherwise);
        }
    }

    private void needReason(boolean isSo, int newReason, int newDetail) {
        if (!isSo) {
            reason = newReason;
            detail = newDetail;
            throw new Fault("UnsupportedOperationException");
        }
    }

    private void remember(State before) {
        past.addLast(before);
        if (past.size() > 8) {
            past.removeFirst();
        }
    }

    private static boolean isAmount(int amount) {
        return amount >= 1 && amount <= 64;
    }

    private static int sizeFor(int amount) {
        return amount == 1 ? 1 : 2 * Integer.highestOneBit(amount - 1);
    }

    private int[] units() {
        int[] units = new int[64];
        java.util.Arrays.fill(units, -1);
        for (int loan = 0; loan < state.loans.size(); loan++) {
            int start = state.loans.get(loan)[2];
            java.util.Arrays.fill(units, start, start + state.loans.get(loan)[3], loan);
        }
        return units;
    }

    private List<int[]> freePieces() {
        List<int[]> pieces = new ArrayList<>();
        collect(units(), 0, 64, pieces);
        return pieces;
    }

    private static void collect(int[] units, int start, int size, List<int[]> pieces) {
        boolean isFree = true;
        for (int unit = start; unit < start + size; unit++) {
            isFree &= units[unit] < 0;
        }
        if (isFree) {
            pieces.add(new int[] {start, size});
        } else if (size > 1) {
            collect(units, start, size / 2, pieces);
            collect(units, start + size / 2, size / 2, pieces);
        }
    }

    private int greatest() {
        return freePieces().stream().mapToInt(piece -> piece[1]).max().orElse(0);
    }

    /** Finds a piece for the amount, which is not marked as lent, and counts what is halved. */
    private int take(int amount) {
        int need = sizeFor(amount);
        List<int[]> pieces = freePieces();
        pieces.removeIf(piece -> piece[1] < need);
        if (state.way == 1) {
            Collections.reverse(pieces);
        }
        pieces.sort((p, q) -> state.way == 2 ? q[1] - p[1] : p[1] - q[1]);
        return halve(pieces.get(0)[0], pieces.get(0)[1], need);
    }

    private int halve(int start, int size, int need) {
        state.halvings += Integer.numberOfTrailingZeros(size) - Integer.numberOfTrailingZeros(need);
        return state.way == 1 ? start + size - need : start;
    }

    private int addLoan(int name, int amount) {
        int start = take(amount);
        state.loans.add(new int[] {name, amount, start, sizeFor(amount)});
        return start;
    }

    private void dropLoan(int loan) {
        int before = freePieces().size();
        state.loans.remove(loan);
        state.joinings += before + 1 - freePieces().size();
    }

    private boolean canLend(int amount) {
        return state.loans.size() < 16 && greatest() >= amount;
    }

    private int serve() {
        List<int[]> left = new ArrayList<>();
        int served = 0;
        for (int[] one : state.waiting) {
            if (canLend(one[1])) {
                addLoan(one[0], one[1]);
                served++;
            } else {
                left.add(one);
            }
        }
        state.waiting = left;
        return served;
    }

    private int change(String method, int a, int b) {
        switch (method) {
            case "lend":
                need(a >= 0 && a <= 99 && isAmount(b), "IllegalArgumentException");
                needReason(state.loans.size() < 16, 1, 16);
                needReason(greatest() >= b, 2, greatest());
                addLoan(a, b);
                return state.loans.size() - 1;
            case "ask":
                need(a >= 0 && a <= 99 && isAmount(b), "IllegalArgumentException");
                if (canLend(b)) {
                    return addLoan(a, b);
                }
                needReason(state.waiting.size() < 6, 3, 6);
                state.waiting.add(new int[] {a, b});
                return -1;
            case "give":
                need(a >= 0 && a < state.loans.size(), "IndexOutOfBoundsException");
                dropLoan(a);
                return serve();
            case "giveAll": {
                need(a >= 0 && a <= 99, "IllegalArgumentException");
                int held = (int) question("nameOf", a, 0);
                needReason(held > 0, 4, (int) question("nameOf", a, 3));
                for (int loan = state.loans.size() - 1; loan >= 0; loan--) {
                    if (state.loans.get(loan)[0] == a) {
                        dropLoan(loan);
                    }
                }
                serve();
                return held;
            }
            case "resize":
                return resize(a, b);
            case "way": {
                need(a >= 0 && a <= 2, "IllegalArgumentException");
                needReason(a != state.way, 5, a);
                int before = state.way;
                state.way = a;
                serve();
                return before;
            }
            default:
                need(a >= 0 && a < state.waiting.size(), "IndexOutOfBoundsException");
                state.waiting.remove(a);
                return state.waiting.size();
        }
    }

    private int resize(int number, int amount) {
        need(number >= 0 && number < state.loans.size(), "IndexOutOfBoundsException");
        need(isAmount(amount), "IllegalArgumentException");
        int[] loan = state.loans.get(number);
        needReason(loan[1] != amount, 5, amount);
        int need = sizeFor(amount);
        int start = loan[2];
        if (need < loan[3]) {
            start = halve(start, loan[3], need);
        } else if (need > loan[3]) {
            State before = state.copy();
            dropLoan(number);
            if (greatest() < need) {
                int greatest = greatest();
                state = before;
                needReason(false, 2, greatest);
            }
            start = take(amount);
            state.loans.add(number, loan);
        }
        loan[1] = amount;
        loan[2] = start;
        loan[3] = need;
        serve();
        return start;
    }

    private Object pieceNumber(int unit, int what) {
        need(unit >= 0 && unit <= 63, "IndexOutOfBoundsException");
        need(what >= 0 && what <= 3, "IllegalArgumentException");
        int loan = units()[unit];
        int[] piece = null;
        for (int[] free : freePieces()) {
            piece = free[0] <= unit ? free : piece;
        }
        if (loan >= 0) {
            piece = new int[] {state.loans.get(loan)[2], state.loans.get(loan)[3]};
        }
        int size = piece[1];
        switch (what) {
            case 0:
                return size;
            case 1:
                return piece[0];
            case 2:
                return loan;
            default:
                return size == 64 ? -1 : piece[0] % (2 * size) == 0 ? piece[0] + size : piece[0] - size;
        }
    }

    private int fits(int amount) {
        State before = state.copy();
        int count = 0;
        while (greatest() >= amount) {
            addLoan(0, amount);
            count++;
        }
        state = before;
        return count;
    }

    private int inTheWay(int amount) {
        int size = sizeFor(amount);
        int[] units = units();
        int fewest = 99;
        for (int start = 0; start < 64; start += size) {
            int count = (int) java.util.Arrays.stream(units, start, start + size).filter(loan -> loan >= 0).distinct().count();
            fewest = Math.min(fewest, count);
        }
        return fewest;
    }

    private List<Integer> ranking() {
        TreeMap<Integer, Integer> held = new TreeMap<>();
        state.loans.forEach(loan -> held.merge(loan[0], loan[3], Integer::sum));
        List<Integer> names = new ArrayList<>(held.keySet());
        names.sort((p, q) -> held.get(q) - held.get(p));
        return names;
    }

    private int account(int what) {
        int amounts = state.loans.stream().mapToInt(loan -> loan[1]).sum();
        int sizes = state.loans.stream().mapToInt(loan -> loan[3]).sum();
        int[] accounts = {state.loans.size(), amounts, sizes, freePieces().size(), state.waiting.size(), sizes - amounts,
            state.halvings, state.joinings, state.way, input.length(), past.size()};
        return accounts[what];
    }

    private List<String> pieceTexts() {
        TreeMap<Integer, String> texts = new TreeMap<>();
        freePieces().forEach(piece -> texts.put(piece[0], piece[1] + "."));
        for (int loan = 0; loan < state.loans.size(); loan++) {
            texts.put(state.loans.get(loan)[2], state.loans.get(loan)[3] + "=" + loan);
        }
        return new ArrayList<>(texts.values());
    }

    private String mapText() {
        StringBuilder map = new StringBuilder();
        for (int loan : units()) {
            map.append(".abcdefghijklmnop".charAt(loan + 1));
        }
        return map.toString();
    }

    private int run() {
        String text = input;
        input = "";
        error = errorOf(text);
        need(error < 0, "IllegalArgumentException");
        State before = state.copy();
        String[] orders = text.split(";");
        for (String order : orders) {
            String[] numbers = order.substring(1).split(":");
            int first = Integer.parseInt(numbers[0]);
            int second = numbers.length > 1 ? Integer.parseInt(numbers[1]) : 0;
            String[] methods = {"lend", "ask", "give", "giveAll", "resize", "way"};
            try {
                change(methods["lqgnrw".indexOf(order.charAt(0))], first, second);
            } catch (Fault e) {
                state = before;
                need(e.getMessage().endsWith("UnsupportedOperationException"), "IllegalArgumentException");
                throw e;
            }
        }
        remember(before);
        return orders.length;
    }

    /** The longest beginning that can become a text, found with regular expressions. */
    static int errorOf(String text) {
        if (TEXT.matcher(text).matches()) {
            return -1;
        }
        int position = 0;
        for (int length = 0; length <= text.length(); length++) {
            Matcher matcher = TEXT.matcher(text.substring(0, length));
            if (matcher.matches() || matcher.hitEnd()) {
                position = length;
            }
        }
        return position;
    }
}
