/** Promises 12 to 21: takers, givers, and what one asks of a box. */
public final class TakersTest {
    private static final Check check = new Check();

    public static void main(String[] args) {
        take();
        takeOrLeave();
        get();
        orElse();
        orElseGet();
        orElseThrow();
        fullOrEmpty();
        isLike();
        code();
        check.end();
    }

    private static void counts(Maybehall x, String after, int asked, int sum, int got, int left) {
        check.due("ASKED after " + after, asked, x.house(2));
        check.due("SUM after " + after, sum, x.house(3));
        check.due("GOT after " + after, got, x.house(4));
        check.due("LEFT after " + after, left, x.house(5));
    }

    private static void take() {
        Maybehall x = new Maybehall();
        x.fill(1, -999);
        x.fill(2, 5);
        x.fill(3, 0);
        check.due("take(0) of an empty one", 0, x.take(0));
        counts(x, "take of an empty one", 0, 0, 0, 0);
        check.due("take(1)", -999, x.take(1));
        check.due("take(2)", -994, x.take(2));
        check.due("take(3), a 0", -994, x.take(3));
        check.due("take(0)", -994, x.take(0));
        counts(x, "three takes", 3, -994, 3, 0);
        check.due("get(1) stays", -999, x.get(1));
    }

    private static void takeOrLeave() {
        Maybehall x = new Maybehall();
        x.fill(1, 7);
        check.due("takeOrLeave(0) of an empty one", 0, x.takeOrLeave(0));
        counts(x, "takeOrLeave of an empty one", 1, 0, 0, 1);
        check.due("takeOrLeave(1)", 7, x.takeOrLeave(1));
        counts(x, "takeOrLeave of a full one", 2, 7, 1, 1);
        check.due("takeOrLeave(1) again", 14, x.takeOrLeave(1));
        check.due("takeOrLeave(0) again", 14, x.takeOrLeave(0));
        counts(x, "takeOrLeave four times", 4, 14, 2, 2);
        check.due("take(1) adds to the same SUM", 21, x.take(1));
    }

    private static void get() {
        Maybehall x = new Maybehall();
        x.fill(1, -5);
        check.due("get(1)", -5, x.get(1));
        check.due("a number is not refused", 0, x.house(6));
        check.due("get(0) of an empty one", -9999, x.get(0));
        check.due("refused once", 1, x.house(6));
        check.due("get(0) again", -9999, x.get(0));
        check.due("refused twice", 2, x.house(6));
        check.due("getting asks nothing", 0, x.house(2));
    }

    private static void orElse() {
        Maybehall x = new Maybehall();
        x.fill(1, 0);
        check.due("orElse(1, 9)", 0, x.orElse(1, 9));
        check.due("orElse(0, 9)", 9, x.orElse(0, 9));
        check.due("orElse(0, -999)", -999, x.orElse(0, -999));
        check.due("orElse(0, 999)", 999, x.orElse(0, 999));
        check.due("isEmpty(0) stays", true, x.isEmpty(0));
        check.due("no giver is asked", 0, x.house(2));
        check.due("nothing is refused", 0, x.house(6));
    }

    private static void orElseGet() {
        Maybehall x = new Maybehall();
        x.fill(1, 4);
        check.due("orElseGet(1, 9)", 4, x.orElseGet(1, 9));
        check.due("a full one asks no giver", 0, x.house(2));
        check.due("orElseGet(0, 9), this one not counted yet", 9, x.orElseGet(0, 9));
        check.due("the giver was asked", 1, x.house(2));
        check.due("orElseGet(0, 9) again", 10, x.orElseGet(0, 9));
        check.due("orElseGet(0, 999)", 1001, x.orElseGet(0, 999));
        check.due("orElseGet(0, -999)", -996, x.orElseGet(0, -999));
        check.due("house(2)", 4, x.house(2));
        check.due("isEmpty(0) stays", true, x.isEmpty(0));
    }

    private static void orElseThrow() {
        Maybehall x = new Maybehall();
        x.fill(1, 4);
        check.due("orElseThrow(1)", 4, x.orElseThrow(1));
        check.thrownWithoutChange("orElseThrow(0)", IllegalStateException.class, x, () -> x.orElseThrow(0));
        check.due("nothing is asked", 0, x.house(2));
        check.due("nothing is refused", 0, x.house(6));
    }

    private static void fullOrEmpty() {
        Maybehall x = new Maybehall();
        x.fill(5, 0);
        check.due("isFull(5)", true, x.isFull(5));
        check.due("isEmpty(5)", false, x.isEmpty(5));
        check.due("isFull(0)", false, x.isFull(0));
        check.due("isEmpty(0)", true, x.isEmpty(0));
    }

    private static void isLike() {
        Maybehall x = new Maybehall();
        x.fill(2, 0);
        x.fill(3, 0);
        x.fill(4, 1);
        check.due("isLike(0, 1), both empty", true, x.isLike(0, 1));
        check.due("isLike(0, 2), empty and 0", false, x.isLike(0, 2));
        check.due("isLike(2, 0), 0 and empty", false, x.isLike(2, 0));
        check.due("isLike(2, 3), the same number", true, x.isLike(2, 3));
        check.due("isLike(3, 4), other numbers", false, x.isLike(3, 4));
        check.due("isLike(4, 4), itself", true, x.isLike(4, 4));
    }

    private static void code() {
        Maybehall x = new Maybehall();
        x.fill(1, -999);
        x.fill(2, 999);
        x.fill(3, 0);
        check.due("code(0) of nothing", 0, x.code(0));
        check.due("code(1)", -999, x.code(1));
        check.due("code(2)", 999, x.code(2));
        check.due("code(3)", 0, x.code(3));
        check.due("a code is not refused", 0, x.house(6));
    }
}
