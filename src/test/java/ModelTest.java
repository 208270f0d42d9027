/** All promises: long runs of calls, each answered by the class as by the model. The runs are always the same. */
public final class ModelTest {
    private static final int RUNS = 600;
    private static final int CALLS = 400;
    private static final String[] QUESTIONS = {"loanOf", "nameOf", "waitingOf", "pieceOf", "free", "greatest", "would", "cuts",
        "fits", "hole", "inTheWay", "ranked", "line", "map", "character", "errorPosition", "refusal", "account", "isWell",
        "meanWaste", "lentShare"};
    private static final String[] CHANGES = {"lend", "lend", "lend", "lend", "ask", "ask", "ask", "give", "give", "giveAll",
        "resize", "resize", "resize", "way", "forget", "append", "append", "run", "run", "undo", "undo", "save", "restore"};

    private static long seed = 1;

    private ModelTest() {
    }

    public static void main(String[] args) {
        for (int run = 0; run < RUNS; run++) {
            runOnce(run);
        }
        Check.end();
    }

    private static int next(int bound) {
        seed = seed * 6364136223846793005L + 1442695040888963407L;
        return (int) ((seed >>> 33) % bound);
    }

    private static void runOnce(int run) {
        CheeseTwins x = new CheeseTwins();
        Model model = new Model();
        int greatestAmount = 1 << (1 + next(6));
        for (int call = 0; call < CALLS; call++) {
            String change = CHANGES[next(CHANGES.length)];
            if (change.equals("run") && next(3) > 0) {
                String text = text(greatestAmount);
                for (int i = 0; i < text.length(); i++) {
                    both(run, x, model, "append", text.charAt(i), 0);
                }
            }
            if (change.equals("restore") && next(4) > 0) {
                continue;
            }
            both(run, x, model, change, first(change), second(change, greatestAmount));
            for (int i = 0; i < 3; i++) {
                String question = QUESTIONS[next(QUESTIONS.length)];
                both(run, x, model, question, next(20) == 0 ? next(140) - 20 : firstOf(question), next(7) - 1);
            }
            wholeState(run, x, model);
        }
    }

    private static int first(String change) {
        if (next(40) == 0) {
            return next(140) - 20;
        }
        switch (change) {
            case "lend": case "ask": case "giveAll":
                return next(6);
            case "way":
                return next(3);
            case "append":
                return "lqgnrw:;0123456789x".charAt(next(19));
            default:
                return next(17) - next(2);
        }
    }

    private static int second(String change, int greatestAmount) {
        return next(40) == 0 ? next(90) - 10 : 1 + next(next(5) == 0 ? 64 : greatestAmount);
    }

    private static int firstOf(String question) {
        switch (question) {
            case "nameOf":
                return next(6);
            case "free":
                return 1 << next(7);
            case "pieceOf": case "would": case "cuts": case "fits": case "inTheWay": case "character":
                return next(66);
            case "account":
                return next(12);
            default:
                return next(10);
        }
    }

    private static String text(int greatestAmount) {
        StringBuilder text = new StringBuilder();
        int orders = 1 + next(5);
        for (int i = 0; i < orders && text.length() < 52; i++) {
            char kind = "llqqgnrrw".charAt(next(9));
            text.append(i > 0 ? ";" : "").append(kind).append(kind == 'w' ? next(3) : next(6));
            if (kind == 'l' || kind == 'q' || kind == 'r') {
                text.append(':').append(1 + next(greatestAmount));
            }
        }
        return text.toString();
    }

    private static void wholeState(int run, CheeseTwins x, Model model) {
        for (int what = 0; what <= 10; what++) {
            both(run, x, model, "account", what, 0);
        }
        for (int loan = 0; loan < x.account(0); loan++) {
            for (int what = 0; what <= 4; what++) {
                both(run, x, model, "loanOf", loan, what);
            }
        }
        for (int place = 0; place < x.account(4); place++) {
            both(run, x, model, "waitingOf", place, 0);
            both(run, x, model, "waitingOf", place, 1);
        }
        for (int place = 0; place < x.account(3); place++) {
            both(run, x, model, "hole", place, 0);
        }
        both(run, x, model, "refusal", 0, 0);
        both(run, x, model, "refusal", 1, 0);
        both(run, x, model, "isWell", 0, 0);
        for (int size = 1; size <= 64; size *= 2) {
            both(run, x, model, "free", size, 0);
            both(run, x, model, "free", size, 1);
        }
    }

    private static void both(int run, CheeseTwins x, Model model, String method, int a, int b) {
        String due = model.call(method, a, b);
        String got = answer(x, method, a, b);
        if (!got.equals(due)) {
            Check.same("run " + run + ": " + method + "(" + a + ", " + b + ")", got, due);
        }
    }

    private static String answer(CheeseTwins x, String method, int a, int b) {
        try {
            return String.valueOf(call(x, method, a, b));
        } catch (RuntimeException e) {
            return "throws." + e.getClass().getSimpleName();
        }
    }

    private static Object call(CheeseTwins x, String method, int a, int b) {
        switch (method) {
            case "lend": return x.lend(a, b);
            case "ask": return x.ask(a, b);
            case "give": return x.give(a);
            case "giveAll": return x.giveAll(a);
            case "resize": return x.resize(a, b);
            case "way": return x.way(a);
            case "forget": return x.forget(a);
            case "append": return x.append((char) a);
            case "run": return x.run();
            case "undo": return x.undo();
            case "save": return x.save();
            case "restore": return x.restore();
            case "loanOf": return x.loanOf(a, b);
            case "nameOf": return x.nameOf(a, b);
            case "waitingOf": return x.waitingOf(a, b);
            case "pieceOf": return x.pieceOf(a, b);
            case "free": return x.free(a, b == 1);
            case "greatest": return x.greatest();
            case "would": return x.would(a);
            case "cuts": return x.cuts(a);
            case "fits": return x.fits(a);
            case "hole": return x.hole(a);
            case "inTheWay": return x.inTheWay(a);
            case "ranked": return x.ranked(a);
            case "line": return x.line();
            case "map": return x.map();
            case "character": return (int) x.character(a);
            case "errorPosition": return x.errorPosition();
            case "refusal": return x.refusal(a == 1);
            case "account": return x.account(a);
            case "isWell": return x.isWell();
            case "meanWaste": return x.meanWaste();
            case "lentShare": return x.lentShare();
            default: throw new AssertionError(method);
        }
    }
}
