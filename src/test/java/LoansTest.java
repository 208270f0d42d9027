import java.util.NoSuchElementException;

/** Promises 1 to 11: loans, those who wait, and the ways. */
public final class LoansTest {
    private static final Class<IllegalArgumentException> VALUE = IllegalArgumentException.class;
    private static final Class<IndexOutOfBoundsException> INDEX = IndexOutOfBoundsException.class;
    private static final Class<NoSuchElementException> ELEMENT = NoSuchElementException.class;
    private static final String SIXTEEN = "l1:4;l2:4;l3:4;l4:4;l5:4;l6:4;l7:4;l8:4;l1:4;l2:4;l3:4;l4:4;l5:4;l6:4;l7:4;l8:4";
    private static final String SIX_WAIT = "q1:64;q2:64;q3:64;q4:64;q5:64;q6:64";

    private LoansTest() {
    }

    public static void main(String[] args) {
        newObject();
        lend();
        lendByEachWay();
        ask();
        give();
        giveAll();
        resizeLess();
        resizeGreater();
        resizeRefused();
        way();
        forget();
        loanOf();
        nameOf();
        waitingOf();
        Check.end();
    }

    private static void newObject() {
        CheeseTwins x = new CheeseTwins();
        Check.same("new", Check.pictureOf(x), "0 0 0 1 0 0 0 0 0 0 0 / 64 -1 well ");
        Check.same("new: signs", Check.signsOf(x), "");
        Check.same("new: error position", x.errorPosition(), -1);
        Check.same("new: reason", Check.reasonOf(x), "none");
    }

    private static void lend() {
        CheeseTwins x = new CheeseTwins();
        Check.same("lend", x.lend(0, 1), 0);
        Check.same("lend", x.lend(99, 33 - 1), 1);
        Check.same("lend: line", Check.lineOf(x), "1=0 1. 2. 4. 8. 16. 32=1");
        Check.same("lend: exact piece", x.lend(5, 16), 2);
        Check.same("lend: line", Check.lineOf(x), "1=0 1. 2. 4. 8. 16=2 32=1");
        Check.same("lend: halvings", x.account(6), 6);
        Check.failsIdle("lend(-1, 1)", x, VALUE, () -> x.lend(-1, 1));
        Check.failsIdle("lend(100, 1)", x, VALUE, () -> x.lend(100, 1));
        Check.failsIdle("lend(1, 0)", x, VALUE, () -> x.lend(1, 0));
        Check.failsIdle("lend(1, 65)", x, VALUE, () -> x.lend(1, 65));
        Check.failsIdle("lend(1, least)", x, VALUE, () -> x.lend(1, Integer.MIN_VALUE));
        Check.refused("lend(1, 9)", x, 2, 8, () -> x.lend(1, 9));
        Check.same("lend: whole board", new CheeseTwins().lend(1, 64), 0);
        CheeseTwins full = Check.after("l1:64");
        Check.refused("lend(1, 1) on a full board", full, 2, 0, () -> full.lend(1, 1));
        Check.failsIdle("lend(100, 1) on a full board", full, VALUE, () -> full.lend(100, 1));
        CheeseTwins sixteen = Check.after(SIXTEEN.replace("1:4", "1:2"));
        Check.refused("lend with 16 loans", sixteen, 1, 16, () -> sixteen.lend(1, 1));
        Check.refused("lend with 16 loans and no piece", sixteen, 1, 16, () -> sixteen.lend(1, 64));
        CheeseTwins others = Check.after("l1:64;q2:64;g0;g0;l3:4;q4:64");
        Check.same("lend also if others wait", others.lend(5, 8), 1);
    }

    private static void lendByEachWay() {
        CheeseTwins even = Check.after("l1:8;l2:8;l3:8;l4:8;l5:8;l6:8;l7:8;l8:8;g6;g4;g2;g0");
        Check.same("way 0: the lowest of the least", even.would(3), 0);
        even.way(1);
        even.lend(9, 3);
        Check.same("way 1: the highest of the least", Check.lineOf(even), "8. 8=0 8. 8=1 8. 8=2 4. 4=4 8=3");
        even.lend(9, 1);
        Check.same("way 1: the least first", Check.lineOf(even), "8. 8=0 8. 8=1 8. 8=2 2. 1. 1=5 4=4 8=3");
        even.way(2);
        even.lend(9, 1);
        Check.same("way 2: the lowest of the greatest", Check.lineOf(even),
                "1=6 1. 2. 4. 8=0 8. 8=1 8. 8=2 2. 1. 1=5 4=4 8=3");
        even.way(0);
        even.lend(9, 1);
        Check.same("way 0: the least", even.loanOf(7, 2), 1);
        even.lend(9, 1);
        Check.same("way 0: the next least", even.loanOf(8, 2), 50);
        CheeseTwins upper = Check.after("w1;l1:1;l2:2");
        Check.same("way 1: upper halves", Check.lineOf(upper), "32. 16. 8. 4. 2=1 1. 1=0");
        CheeseTwins greatest = Check.after("l1:1;w2;l2:1;l3:8");
        Check.same("way 2: lower halves", Check.lineOf(greatest), "1=0 1. 2. 4. 8. 8=2 8. 1=1 1. 2. 4. 8. 16.");
    }

    private static void ask() {
        CheeseTwins x = new CheeseTwins();
        Check.same("ask", x.ask(7, 20), 0);
        Check.same("ask: first unit", x.ask(8, 17), 32);
        Check.same("ask: waits", x.ask(0, 1), -1);
        Check.same("ask: waits last", x.ask(99, 64), -1);
        Check.same("ask: state", Check.pictureOf(x),
                "2 37 64 0 2 27 1 0 0 0 4 | 7 20 0 32 12 | 8 17 32 32 15 ? 0:1 ? 99:64 / 32 0 / 32 1 well ");
        Check.failsIdle("ask(-1, 1)", x, VALUE, () -> x.ask(-1, 1));
        Check.failsIdle("ask(100, 1)", x, VALUE, () -> x.ask(100, 1));
        Check.failsIdle("ask(1, 0)", x, VALUE, () -> x.ask(1, 0));
        Check.failsIdle("ask(1, 65)", x, VALUE, () -> x.ask(1, 65));
        CheeseTwins six = Check.after("l9:32;" + SIX_WAIT);
        Check.refused("ask as the seventh", six, 3, 6, () -> six.ask(1, 33));
        Check.failsIdle("ask(100, 33) as the seventh", six, VALUE, () -> six.ask(100, 33));
        Check.same("ask is lent to though six wait", six.ask(1, 32), 32);
        CheeseTwins sixteen = Check.after(SIXTEEN.replace("1:4", "1:2"));
        Check.same("ask with 16 loans", sixteen.ask(1, 1), -1);
    }

    private static void give() {
        CheeseTwins x = Check.after("l1:8;l2:8;l3:16;l4:32;q5:40;q6:5;q7:20;q8:16");
        Check.same("give", x.give(0), 1);
        Check.same("give: the later ones are less", Check.lineOf(x), "8=3 8=0 16=1 32=2");
        Check.same("give: who fits", x.give(1), 1);
        Check.same("give: line", Check.lineOf(x), "8=2 8=0 16=3 32=1");
        Check.same("give: nobody fits", x.give(0), 0);
        Check.same("give: line", Check.lineOf(x), "8=1 8. 16=2 32=0");
        Check.same("give: joined", x.give(1), 0);
        Check.same("give: line", Check.lineOf(x), "16. 16=1 32=0");
        Check.same("give: joined, and lent", x.give(1), 1);
        Check.same("give: line", Check.lineOf(x), "32=1 32=0");
        Check.same("give: free", x.give(1), 0);
        Check.same("give: the board", x.give(0), 1);
        Check.same("give: line", Check.lineOf(x), "64=0");
        Check.same("give: joinings", x.account(7), 3);
        Check.failsIdle("give(-1)", x, INDEX, () -> x.give(-1));
        Check.failsIdle("give(1)", x, INDEX, () -> x.give(1));
        Check.failsIdle("give(greatest)", x, INDEX, () -> x.give(Integer.MAX_VALUE));
        servedInOrder();
        CheeseTwins none = new CheeseTwins();
        Check.failsIdle("give(0)", none, INDEX, () -> none.give(0));
        CheeseTwins sixteen = Check.after(SIXTEEN.replace("1:4", "1:2") + ";q20:1;q21:64;q22:2");
        Check.same("give with 16 loans", sixteen.give(15), 1);
        Check.same("give with 16 loans: who", sixteen.nameOf(20, 0), 1);
        Check.same("give with 16 loans: who waits", sixteen.waitingOf(1, 0), 22);
    }

    private static void servedInOrder() {
        CheeseTwins x = Check.after("l1:64;q2:33;q3:20;q4:64;q5:10;q6:17;q7:16");
        Check.same("served: the first one has all", x.give(0), 1);
        Check.same("served: those left", x.give(0), 3);
        Check.same("served: line", Check.lineOf(x), "32=0 16=1 16=2");
        Check.same("served: who", x.loanOf(1, 0) * 100 + x.loanOf(2, 0), 507);
        Check.same("served: who waits", x.waitingOf(0, 0) * 100 + x.waitingOf(1, 0), 406);
    }

    private static void giveAll() {
        CheeseTwins x = Check.after("l1:16;l2:16;l1:16;l3:16;q4:32;q1:50;q5:2");
        Check.same("giveAll", x.giveAll(1), 2);
        Check.same("giveAll: state", Check.pictureOf(x), "3 34 34 4 2 0 6 0 0 0 8 | 2 16 16 16 0 | 3 16 48 16 0 "
                + "| 5 2 0 2 0 ? 4:32 ? 1:50 / 2 2 / 2 -1 / 4 -1 / 8 -1 / 16 0 / 16 -1 / 16 1 well ");
        Check.refused("giveAll of one who waits", x, 4, 1, () -> x.giveAll(1));
        Check.refused("giveAll(0)", x, 4, 0, () -> x.giveAll(0));
        Check.failsIdle("giveAll(-1)", x, VALUE, () -> x.giveAll(-1));
        Check.failsIdle("giveAll(100)", x, VALUE, () -> x.giveAll(100));
        Check.same("giveAll: one", x.giveAll(2), 1);
        Check.same("giveAll: joinings", x.account(7), 0);
        Check.same("giveAll: the next", x.giveAll(3), 1);
        Check.same("giveAll: served behind", Check.lineOf(x), "2=0 2. 4. 8. 16. 32=1");
        CheeseTwins between = Check.after("l1:32;l1:32;q2:10;q3:64;n1");
        Check.same("giveAll: served once all are given back", Check.lineOf(between), "16=0 16. 32.");
        CheeseTwins whole = Check.after("l1:32;l1:32;q3:64;q2:10;n1");
        Check.same("giveAll: served once all are given back", Check.lineOf(whole), "64=0");
    }

    private static void resizeLess() {
        CheeseTwins x = Check.after("l1:30;l2:32;q3:5;q4:17;q5:2");
        Check.same("resize: same need", x.resize(0, 17), 0);
        Check.same("resize: same need, nobody is lent to", x.account(4), 3);
        Check.same("resize: amount", x.loanOf(0, 1), 17);
        Check.same("resize: less", x.resize(0, 3), 0);
        Check.same("resize: less, then those who wait", Check.lineOf(x), "4=0 2=3 2. 8=2 16. 32=1");
        Check.same("resize: halvings", x.account(6), 5);
        CheeseTwins upper = Check.after("l1:32;w1");
        Check.same("resize: the upper half", upper.resize(0, 8), 24);
        Check.same("resize: line", Check.lineOf(upper), "16. 8. 8=0 32.");
        CheeseTwins greatest = Check.after("w1;l1:32;w2");
        Check.same("resize: the lower half", greatest.resize(0, 1), 32);
        Check.same("resize: line", Check.lineOf(greatest), "32. 1=0 1. 2. 4. 8. 16.");
        Check.same("resize: the board", Check.after("l1:64").resize(0, 1), 0);
        CheeseTwins sixteen = Check.after(SIXTEEN + ";q20:1");
        Check.same("resize with 16 loans", sixteen.resize(3, 1), 12);
        Check.same("resize with 16 loans: nothing is lent", sixteen.account(4), 1);
    }

    private static void resizeGreater() {
        CheeseTwins x = Check.after("l1:4;l2:4;l3:8");
        Check.same("resize: greater", x.resize(0, 5), 16);
        Check.same("resize: line", Check.lineOf(x), "4. 4=1 8=2 8=0 8. 32.");
        CheeseTwins own = Check.after("l1:8;l2:8;g1;l3:32");
        Check.same("resize: its own piece counts", own.resize(0, 32), 0);
        Check.same("resize: line", Check.lineOf(own), "32=0 32=1");
        Check.same("resize: joinings", own.account(7), 2);
        CheeseTwins alone = Check.after("w1;l1:1");
        Check.same("resize: the whole board", alone.resize(0, 64), 0);
        Check.same("resize: joinings", alone.account(7), 6);
        CheeseTwins upper = Check.after("w1;l1:1;l2:8");
        Check.same("resize: the upper half", upper.resize(0, 2), 62);
        CheeseTwins served = Check.after("l1:4;l2:16;l3:32;r1:8;q4:16");
        Check.same("before resize", Check.lineOf(served), "4=0 4. 8. 8=1 8. 32=2");
        Check.same("resize: ahead of others", served.resize(0, 8), 24);
        Check.same("resize: those who wait", Check.lineOf(served), "16=3 8=1 8=0 32=2");
        CheeseTwins sixteen = Check.after(SIXTEEN.replace("8:4", "8:1") + ";q20:1");
        Check.same("resize with 16 loans", sixteen.resize(7, 3), 60);
        Check.same("resize with 16 loans: nothing is lent", sixteen.account(4), 1);
    }

    private static void resizeRefused() {
        CheeseTwins x = Check.after("l1:8;l2:8;l3:32;g0");
        Check.same("before resize", Check.lineOf(x), "8. 8=0 16. 32=1");
        Check.refused("resize to the same", x, 5, 8, () -> x.resize(0, 8));
        Check.refused("resize to 33", x, 2, 32, () -> x.resize(0, 33));
        Check.refused("resize to 64", x, 2, 32, () -> x.resize(1, 64));
        Check.failsIdle("resize(2, 1)", x, INDEX, () -> x.resize(2, 1));
        Check.failsIdle("resize(-1, 0)", x, INDEX, () -> x.resize(-1, 0));
        Check.failsIdle("resize(0, 0)", x, VALUE, () -> x.resize(0, 0));
        Check.failsIdle("resize(0, 65)", x, VALUE, () -> x.resize(0, 65));
        CheeseTwins joined = Check.after("l1:32;l2:1");
        Check.refused("resize: its own piece is joined", joined, 2, 32, () -> joined.resize(1, 40));
        CheeseTwins other = Check.after("l1:1;l2:1");
        Check.refused("resize: another piece is greater", other, 2, 32, () -> other.resize(1, 64));
        CheeseTwins only = Check.after("l1:32;l2:32");
        Check.refused("resize: its own piece is the greatest", only, 2, 32, () -> only.resize(1, 64));
    }

    private static void way() {
        CheeseTwins x = new CheeseTwins();
        Check.refused("way(0)", x, 5, 0, () -> x.way(0));
        Check.same("way", x.way(2), 0);
        Check.same("way", x.way(1), 2);
        Check.same("way: account", x.account(8), 1);
        Check.refused("way(1)", x, 5, 1, () -> x.way(1));
        Check.failsIdle("way(-1)", x, VALUE, () -> x.way(-1));
        Check.failsIdle("way(3)", x, VALUE, () -> x.way(3));
        Check.same("way", x.way(0), 1);
        Check.same("way: changes", x.account(10), 3);
        CheeseTwins waits = Check.after("l1:64;q2:1;w1");
        Check.same("way: nobody is lent to", waits.account(4), 1);
    }

    private static void forget() {
        CheeseTwins x = Check.after("l9:64;q1:1;q2:2;q3:3");
        Check.failsIdle("forget(-1)", x, INDEX, () -> x.forget(-1));
        Check.failsIdle("forget(3)", x, INDEX, () -> x.forget(3));
        Check.same("forget", x.forget(1), 2);
        Check.same("forget: the first", x.waitingOf(0, 0), 1);
        Check.same("forget: the next", x.waitingOf(1, 0) * 10 + x.waitingOf(1, 1), 33);
        Check.same("forget", x.forget(1), 1);
        Check.same("forget", x.forget(0), 0);
        Check.failsIdle("forget(0)", x, INDEX, () -> x.forget(0));
    }

    private static void loanOf() {
        CheeseTwins x = Check.after("l7:1;l42:19");
        int[] due = {42, 19, 32, 32, 13};
        for (int what = 0; what < due.length; what++) {
            Check.same("loanOf(1, " + what + ")", x.loanOf(1, what), due[what]);
        }
        Check.failsIdle("loanOf(2, 0)", x, INDEX, () -> x.loanOf(2, 0));
        Check.failsIdle("loanOf(-1, 9)", x, INDEX, () -> x.loanOf(-1, 9));
        Check.failsIdle("loanOf(0, 5)", x, VALUE, () -> x.loanOf(0, 5));
        Check.failsIdle("loanOf(0, -1)", x, VALUE, () -> x.loanOf(0, -1));
    }

    private static void nameOf() {
        CheeseTwins x = Check.after("l7:3;l8:3;l7:17;q7:60;q8:20;q7:64");
        int[] due = {2, 20, 36, 2};
        for (int what = 0; what < due.length; what++) {
            Check.same("nameOf(7, " + what + ")", x.nameOf(7, what), due[what]);
            Check.same("nameOf(9, " + what + ")", x.nameOf(9, what), 0);
        }
        Check.failsIdle("nameOf(-1, 9)", x, VALUE, () -> x.nameOf(-1, 9));
        Check.failsIdle("nameOf(100, 0)", x, VALUE, () -> x.nameOf(100, 0));
        Check.failsIdle("nameOf(7, 4)", x, INDEX, () -> x.nameOf(7, 4));
        Check.failsIdle("nameOf(7, -1)", x, INDEX, () -> x.nameOf(7, -1));
    }

    private static void waitingOf() {
        CheeseTwins x = Check.after("l9:64;q1:11;q2:12");
        Check.same("waitingOf(1, 0)", x.waitingOf(1, 0), 2);
        Check.same("waitingOf(1, 1)", x.waitingOf(1, 1), 12);
        Check.failsIdle("waitingOf(2, 9)", x, ELEMENT, () -> x.waitingOf(2, 9));
        Check.failsIdle("waitingOf(-1, 0)", x, ELEMENT, () -> x.waitingOf(-1, 0));
        Check.failsIdle("waitingOf(0, 2)", x, VALUE, () -> x.waitingOf(0, 2));
        Check.failsIdle("waitingOf(0, -1)", x, VALUE, () -> x.waitingOf(0, -1));
    }
}
