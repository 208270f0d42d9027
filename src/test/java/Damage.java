import java.lang.reflect.Field;

/** What isWell tells of a board that no call can make: each test damages what an object holds inside. */
final class Damage {
    private Damage() {
    }

    static void all() {
        ill("a free piece is missing", "l1:32", "pieces.sizes", 32, 0);
        ill("a free piece lies on a loan", "l1:32", "pieces.sizes", 0, 1);
        ill("a free piece is too small", "l1:32", "pieces.sizes", 32, 16);
        ill("a free piece is too great", "l1:16", "pieces.sizes", 16, 32);
        ill("a loan's piece lies on another one", "l1:32;l2:32", "loans.starts", 1, 0);
        ill("a loan's piece is too small for the board", "l1:1;l2:1", "loans.sizes", 1, 0);
        loansOnEachOther();
        twinsAreFree();
        ill("a loan is greater than its piece", "l1:4;l2:4", "loans.amounts", 1, 5);
        ill("the next smaller size would do", "l1:4;l2:4", "loans.amounts", 1, 2);
        ill("a size far less would do", "l1:4;l2:4", "loans.amounts", 1, 1);
        ill("the next smaller size would do for the board", "l1:33", "loans.amounts", 0, 32);
        well("a loan is as great as its piece", "l1:3;l2:3", "loans.amounts", 1, 4);
        well("the next smaller size would not do", "l1:4;l2:4", "loans.amounts", 1, 3);
        ill("the last one who waits could be lent to", "l1:32;q2:64;q3:33", "waiting.amounts", 1, 32);
        ill("the first one who waits could be lent to", "l1:32;q2:64;q3:33", "waiting.amounts", 0, 1);
        well("those who wait could not be lent to", "l1:32;q2:64;q3:64", "waiting.amounts", 1, 33);
        well("with 16 loans", BoundsOfTerms.SIXTEEN_OF_1 + ";q2:64", "waiting.amounts", 0, 1);
    }

    /** The free pieces are as the loans leave them, and each loan is met, but a part of the board has two of them. */
    private static void loansOnEachOther() {
        CheeseTwins x = Check.after("l1:32;l2:32");
        row(x, "loans.starts")[1] = 0;
        row(x, "pieces.sizes")[32] = 32;
        Check.same("two loans have one piece: isWell", x.isWell(), false);
        row(x, "loans.starts")[0] = 32;
        row(x, "pieces.sizes")[32] = 0;
        Check.same("each has its own again: isWell", x.isWell(), true);
        CheeseTwins unit = Check.after("l1:1;l2:1;l3:2");
        row(unit, "loans.starts")[1] = 0;
        row(unit, "pieces.sizes")[1] = 1;
        Check.same("two loans have the first unit: isWell", unit.isWell(), false);
    }

    private static void twinsAreFree() {
        CheeseTwins x = Check.after("l1:32");
        row(x, "pieces.sizes")[32] = 16;
        row(x, "pieces.sizes")[48] = 16;
        Check.same("twins are free at once: isWell", x.isWell(), false);
        row(x, "pieces.sizes")[32] = 32;
        row(x, "pieces.sizes")[48] = 0;
        Check.same("twins are joined: isWell", x.isWell(), true);
    }

    private static void ill(String what, String orders, String row, int index, int number) {
        check(what, orders, row, index, number, false);
    }

    private static void well(String what, String orders, String row, int index, int number) {
        check(what, orders, row, index, number, true);
    }

    private static void check(String what, String orders, String row, int index, int number, boolean due) {
        CheeseTwins x = Check.after(orders);
        int before = row(x, row)[index];
        Check.same("before: isWell", x.isWell(), true);
        row(x, row)[index] = number;
        Check.same(what + ": isWell", x.isWell(), due);
        row(x, row)[index] = before;
        Check.same("behind: isWell", x.isWell(), true);
    }

    /** A row of the board inside an object, by its names there. */
    private static int[] row(CheeseTwins x, String path) {
        Object inside = field(x, "board");
        for (String name : path.split("\\.")) {
            inside = field(inside, name);
        }
        return (int[]) inside;
    }

    private static Object field(Object owner, String name) {
        try {
            Field field = owner.getClass().getDeclaredField(name);
            field.setAccessible(true);
            return field.get(owner);
        } catch (ReflectiveOperationException e) {
            throw new IllegalStateException("the class has no field " + name + " any more", e);
        }
    }
}
