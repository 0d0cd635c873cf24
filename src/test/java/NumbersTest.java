/** Promises 31 to 40: numbers that may be missing. */
public final class NumbersTest {
    private static final Check check = new Check();

    public static void main(String[] args) {
        areLike();
        compareByEachOrder();
        codes();
        codeOf();
        must();
        mustElse();
        nothingOrSomething();
        told();
        place();
        check.end();
    }

    private static void areLike() {
        Maybehall x = new Maybehall();
        x.fill(2, 0);
        x.fill(3, 0);
        x.fill(4, 1);
        check.due("areLike(0, 1), nothing in both", true, x.areLike(0, 1));
        check.due("areLike(0, 2), nothing and 0", false, x.areLike(0, 2));
        check.due("areLike(2, 0), 0 and nothing", false, x.areLike(2, 0));
        check.due("areLike(2, 3), the same number", true, x.areLike(2, 3));
        check.due("areLike(3, 4), other numbers", false, x.areLike(3, 4));
        check.due("areLike(4, 4), itself", true, x.areLike(4, 4));
    }

    private static void compareByEachOrder() {
        compared(5, 5, 0, 0, 0);
        compared(-999, 999, -1, 1, 0);
        compared(5, -5, 1, -1, 0);
        compared(0, -1, 1, -1, -1);
        compared(-3, 2, -1, 1, 1);
        compared(2, 3, -1, 1, -1);
        compared(-2, -3, 1, -1, -1);
        comparedWithNothing(-999);
        comparedWithNothing(0);
        comparedWithNothing(999);
        Maybehall x = new Maybehall();
        for (int order = 0; order < 3; order++) {
            check.due("compare(0, 1, " + order + ") of nothing", 0, x.compare(0, 1, order));
            check.due("compare(3, 3, " + order + ") with itself", 0, x.compare(3, 3, order));
        }
        check.due("nothing is asked", 0, x.house(2));
    }

    private static void compared(int first, int second, int plainly, int turnedRound, int bySize) {
        Maybehall x = new Maybehall();
        x.fill(0, first);
        x.fill(5, second);
        String these = " of " + first + " and " + second;
        check.due("compare(0, 5, 0)" + these, plainly, x.compare(0, 5, 0));
        check.due("compare(5, 0, 0)" + these, -plainly, x.compare(5, 0, 0));
        check.due("compare(0, 5, 1)" + these, turnedRound, x.compare(0, 5, 1));
        check.due("compare(5, 0, 1)" + these, -turnedRound, x.compare(5, 0, 1));
        check.due("compare(0, 5, 2)" + these, bySize, x.compare(0, 5, 2));
        check.due("compare(5, 0, 2)" + these, -bySize, x.compare(5, 0, 2));
    }

    private static void comparedWithNothing(int number) {
        Maybehall x = new Maybehall();
        x.fill(1, number);
        String these = " of nothing and " + number;
        check.due("compare(0, 1, 0)" + these, -1, x.compare(0, 1, 0));
        check.due("compare(1, 0, 0)" + these, 1, x.compare(1, 0, 0));
        check.due("compare(0, 1, 1)" + these, 1, x.compare(0, 1, 1));
        check.due("compare(1, 0, 1)" + these, -1, x.compare(1, 0, 1));
        check.due("compare(0, 1, 2)" + these, -1, x.compare(0, 1, 2));
        check.due("compare(1, 0, 2)" + these, 1, x.compare(1, 0, 2));
    }

    private static void codes() {
        Maybehall x = new Maybehall();
        check.due("codes(0, 1, 2) of nothing", 29791, x.codes(0, 1, 2));
        x.fill(0, 0);
        x.fill(1, -999);
        x.fill(2, 999);
        check.due("codes(0, 3, 0)", 29791, x.codes(0, 3, 0));
        check.due("codes(0, 1, 2)", -179, x.codes(0, 1, 2));
        check.due("codes(2, 1, 0)", 958861, x.codes(2, 1, 0));
        check.due("codes(2, 2, 2)", 29791 + 999 * 993, x.codes(2, 2, 2));
        check.due("codes(1, 1, 1)", 29791 - 999 * 993, x.codes(1, 1, 1));
        check.due("codes(5, 4, 2)", 29791 + 999, x.codes(5, 4, 2));
    }

    private static void codeOf() {
        Maybehall x = new Maybehall();
        x.fill(1, -999);
        x.fill(5, 999);
        check.due("codeOf(0) of nothing", 0, x.codeOf(0));
        check.due("codeOf(1)", -999, x.codeOf(1));
        check.due("codeOf(5)", 999, x.codeOf(5));
    }

    private static void must() {
        Maybehall x = new Maybehall();
        x.fill(1, 0);
        check.due("must(1)", 0, x.must(1));
        check.due("a number is not refused", 0, x.house(6));
        check.due("must(0) of nothing", -9999, x.must(0));
        check.due("refused once", 1, x.house(6));
        check.due("get(0)", -9999, x.get(0));
        check.due("getPlain(0)", -9999, x.getPlain(0));
        check.due("all three are counted together", 3, x.house(6));
    }

    private static void mustElse() {
        Maybehall x = new Maybehall();
        x.fill(1, 0);
        check.due("mustElse(1, 5)", 0, x.mustElse(1, 5));
        check.due("mustElse(0, 5)", 5, x.mustElse(0, 5));
        check.due("mustElse(0, -999)", -999, x.mustElse(0, -999));
        check.due("mustElse(0, 999)", 999, x.mustElse(0, 999));
        check.due("isEmpty(0) stays", true, x.isEmpty(0));
        check.due("nothing is asked or refused", 0, x.house(2) + x.house(6));
    }

    private static void nothingOrSomething() {
        Maybehall x = new Maybehall();
        x.fill(5, 0);
        check.due("isNothing(5)", false, x.isNothing(5));
        check.due("isSomething(5)", true, x.isSomething(5));
        check.due("isNothing(0)", true, x.isNothing(0));
        check.due("isSomething(0)", false, x.isSomething(0));
    }

    private static void told() {
        Maybehall x = new Maybehall();
        check.due("told(0) of nothing", "none", x.told(0));
        for (int number = -999; number <= 999; number++) {
            x.fill(0, number);
            check.due("told(0) of " + number, String.valueOf(number), x.told(0));
        }
        String kept = x.told(0);
        x.fill(5, -20);
        check.due("told(5)", "-20", x.told(5));
        check.due("told(4) of nothing", "none", x.told(4));
        check.due("telling asks and refuses nothing", 0, x.house(2) + x.house(6));
        x.empty(0);
        check.due("told(0) of nothing again", "none", x.told(0));
        check.due("a text told earlier", "999", kept);
    }

    private static void place() {
        Maybehall x = new Maybehall();
        check.due("place(0, 1)", 0, x.place(0, 1));
        check.due("place(998, 999)", 998, x.place(998, 999));
        check.due("place(4, 5)", 4, x.place(4, 5));
        thrownByPlace(x, 0, 0, IndexOutOfBoundsException.class);
        thrownByPlace(x, 5, 5, IndexOutOfBoundsException.class);
        thrownByPlace(x, -1, 5, IndexOutOfBoundsException.class);
        thrownByPlace(x, 999, 999, IndexOutOfBoundsException.class);
        thrownByPlace(x, Integer.MAX_VALUE, 999, IndexOutOfBoundsException.class);
        thrownByPlace(x, Integer.MIN_VALUE, 999, IndexOutOfBoundsException.class);
        thrownByPlace(x, 1, 1000, IllegalArgumentException.class);
        thrownByPlace(x, 1, -1, IllegalArgumentException.class);
        thrownByPlace(x, -1, -1, IllegalArgumentException.class);
        thrownByPlace(x, 5000, 1000, IllegalArgumentException.class);
        thrownByPlace(x, 0, Integer.MAX_VALUE, IllegalArgumentException.class);
        thrownByPlace(x, 0, Integer.MIN_VALUE, IllegalArgumentException.class);
    }

    private static void thrownByPlace(Maybehall x, int place, int length, Class<? extends RuntimeException> due) {
        check.thrownWithoutChange("place(" + place + ", " + length + ")", due, x, () -> x.place(place, length));
    }
}
