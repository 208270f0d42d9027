/** Promises 32 to 34: undo, save and restore. */
public final class UndoTest {
    private static final Class<IllegalStateException> STATE = IllegalStateException.class;
    private static final String[] CHANGES = {"l1:5", "l2:20", "q3:33", "w1", "r0:9", "q4:1", "n2", "g0", "l6:2;l6:3;g0",
        "w2", "l7:16", "q8:1"};

    private UndoTest() {
    }

    public static void main(String[] args) {
        undoEachChange();
        undoAtMostEight();
        undoGoesOn();
        whatUndoLeaves();
        save();
        restore();
        Check.end();
    }

    private static void undoEachChange() {
        CheeseTwins x = new CheeseTwins();
        undoOne(x, "lend", () -> x.lend(1, 20));
        x.lend(1, 20);
        x.lend(2, 32);
        undoOne(x, "ask", () -> x.ask(3, 20));
        x.ask(3, 7);
        x.ask(4, 9);
        undoOne(x, "give", () -> x.give(0));
        undoOne(x, "giveAll", () -> x.giveAll(2));
        undoOne(x, "resize", () -> x.resize(0, 1));
        undoOne(x, "resize to the same need", () -> x.resize(0, 17));
        undoOne(x, "way", () -> x.way(2));
        undoOne(x, "forget", () -> x.forget(0));
        Check.type(x, "n1");
        CheeseTwins typed = x;
        String before = Check.pictureOf(typed);
        typed.run();
        typed.undo();
        Check.type(typed, "n1");
        Check.same("undo of run", Check.pictureOf(typed), before);
    }

    private static void undoOne(CheeseTwins x, String what, Check.Call change) {
        String before = Check.pictureOf(x);
        int changes = x.account(10);
        change.make();
        Check.same(what + ": another state", Check.pictureOf(x).equals(before), false);
        Check.same(what + ": changes", x.account(10), changes + 1);
        Check.same("undo of " + what, x.undo(), changes);
        Check.same("undo of " + what + ": state", Check.pictureOf(x), before);
    }

    private static void undoAtMostEight() {
        CheeseTwins x = new CheeseTwins();
        Check.failsIdle("undo", x, STATE, x::undo);
        String[] pictures = new String[CHANGES.length + 1];
        for (int i = 0; i < CHANGES.length; i++) {
            pictures[i] = Check.boardOf(x);
            Check.type(x, CHANGES[i]);
            x.run();
            Check.same("changes", x.account(10), Math.min(i + 1, 8));
        }
        for (int left = 7; left >= 0; left--) {
            Check.same("undo", x.undo(), left);
            Check.same("undo: state", Check.boardOf(x), pictures[CHANGES.length - 8 + left]);
        }
        Check.failsIdle("undo of a ninth", x, STATE, x::undo);
    }

    private static void undoGoesOn() {
        CheeseTwins x = Check.after("l1:1;l2:2;l3:4");
        x.undo();
        x.undo();
        x.lend(5, 8);
        Check.same("undo, then a change", x.account(10), 2);
        x.undo();
        Check.same("undo, then a change: line", Check.lineOf(x), "1=0 1. 2. 4. 8. 16. 32.");
        Check.same("undo", x.undo(), 0);
        Check.failsIdle("undo", x, STATE, x::undo);
        Check.fails("lend(1, 0)", IllegalArgumentException.class, () -> x.lend(1, 0));
        Check.fails("way(0)", UnsupportedOperationException.class, () -> x.way(0));
        Check.failsIdle("undo of nothing", x, STATE, x::undo);
    }

    private static void whatUndoLeaves() {
        CheeseTwins x = Check.after("l1:64");
        Check.fails("lend(1, 1)", UnsupportedOperationException.class, () -> x.lend(1, 1));
        x.line();
        Check.type(x, "w1");
        x.undo();
        Check.same("undo: the line", Check.signsOf(x), "64=0");
        Check.same("undo: the reason", Check.reasonOf(x), "2,0");
        Check.same("undo: the input", x.run(), 1);
    }

    private static void save() {
        CheeseTwins x = Check.after("l1:1;l2:2");
        Check.same("save", x.save(), 2);
        Check.same("save: changes stay", x.account(10), 2);
        x.lend(3, 3);
        Check.same("save in place of an earlier one", x.save(), 3);
        x.give(0);
        Check.same("restore", x.restore(), 3);
        Check.same("save of none", new CheeseTwins().save(), 0);
    }

    private static void restore() {
        CheeseTwins x = Check.after("l1:10;l2:20;q3:30;q4:40;w1");
        Check.failsIdle("restore", x, STATE, x::restore);
        x.save();
        String saved = Check.boardOf(x);
        x.giveAll(1);
        x.way(2);
        x.forget(0);
        x.line();
        String line = Check.signsOf(x);
        Check.type(x, "x");
        Check.fails("run", IllegalArgumentException.class, x::run);
        Check.same("restore", x.restore(), 2);
        Check.same("restore: state", Check.boardOf(x), saved);
        Check.same("restore: the line", Check.signsOf(x), line);
        Check.same("restore: the error position", x.errorPosition(), 0);
        Check.same("restore: changes", x.account(10), 0);
        Check.failsIdle("undo behind restore", x, STATE, x::undo);
        x.give(0);
        x.undo();
        Check.same("undo of a change behind restore", Check.boardOf(x), saved);
        x.giveAll(2);
        x.restore();
        Check.same("restore again", Check.boardOf(x), saved);
        Check.type(x, "w0");
        x.restore();
        Check.same("restore: the input", x.run(), 1);
    }
}
