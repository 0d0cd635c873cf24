/** Promises 22 to 30: the plain boxes. */
public final class PlainTest {
    private static final Check check = new Check();

    public static void main(String[] args) {
        fillAndEmpty();
        getAndOrElse();
        isFull();
        takePlain();
        arePlainLike();
        toPlain();
        fromPlain();
        check.end();
    }

    private static void fillAndEmpty() {
        Maybehall x = new Maybehall();
        check.due("emptyPlain(0) of an empty one", 0, x.emptyPlain(0));
        check.due("fillPlain(0, -999)", 0, x.fillPlain(0, -999));
        check.due("getPlain(0)", -999, x.getPlain(0));
        check.due("fillPlain(0, 999) of a full one", 1, x.fillPlain(0, 999));
        check.due("getPlain(0)", 999, x.getPlain(0));
        check.due("house(8)", 1, x.house(8));
        check.due("fillPlain(1, 0)", 0, x.fillPlain(1, 0));
        check.due("house(8)", 2, x.house(8));
        check.due("emptyPlain(0) of a full one", 1, x.emptyPlain(0));
        check.due("emptyPlain(0) again", 0, x.emptyPlain(0));
        check.due("getPlain(1), the other one", 0, x.getPlain(1));
        check.due("a plain box is no box", 0, x.house(0));
    }

    private static void getAndOrElse() {
        Maybehall x = new Maybehall();
        x.fillPlain(1, 0);
        check.due("getPlain(1)", 0, x.getPlain(1));
        check.due("a number is not refused", 0, x.house(6));
        check.due("getPlain(0) of an empty one", -9999, x.getPlain(0));
        check.due("refused once", 1, x.house(6));
        check.due("orElsePlain(1, 9)", 0, x.orElsePlain(1, 9));
        check.due("orElsePlain(0, 9)", 9, x.orElsePlain(0, 9));
        check.due("orElsePlain(0, -999)", -999, x.orElsePlain(0, -999));
        check.due("orElsePlain(0, 999)", 999, x.orElsePlain(0, 999));
        check.due("isFullPlain(0) stays", false, x.isFullPlain(0));
        check.due("refused once still", 1, x.house(6));
        check.due("nothing is asked", 0, x.house(2));
    }

    private static void isFull() {
        Maybehall x = new Maybehall();
        x.fillPlain(0, 0);
        check.due("isFullPlain(0)", true, x.isFullPlain(0));
        check.due("isFullPlain(1)", false, x.isFullPlain(1));
    }

    private static void takePlain() {
        Maybehall x = new Maybehall();
        x.fillPlain(1, -7);
        x.fill(0, 10);
        check.due("takePlain(0) of an empty one", 0, x.takePlain(0));
        check.due("an empty one asks no taker", 0, x.house(2) + x.house(4) + x.house(5));
        check.due("takePlain(1)", -7, x.takePlain(1));
        check.due("take(0) adds to the same SUM", 3, x.take(0));
        check.due("takePlain(0)", 3, x.takePlain(0));
        check.due("ASKED", 2, x.house(2));
        check.due("SUM", 3, x.house(3));
        check.due("GOT", 2, x.house(4));
        check.due("LEFT", 0, x.house(5));
        check.due("getPlain(1) stays", -7, x.getPlain(1));
    }

    private static void arePlainLike() {
        Maybehall x = new Maybehall();
        check.due("arePlainLike(), both empty", true, x.arePlainLike());
        x.fillPlain(0, 0);
        check.due("arePlainLike(), 0 and empty", false, x.arePlainLike());
        x.fillPlain(1, 0);
        check.due("arePlainLike(), the same number", true, x.arePlainLike());
        x.fillPlain(1, 1);
        check.due("arePlainLike(), other numbers", false, x.arePlainLike());
        x.emptyPlain(0);
        check.due("arePlainLike(), empty and 1", false, x.arePlainLike());
    }

    private static void toPlain() {
        Maybehall x = new Maybehall();
        x.fill(5, -7);
        check.due("toPlain(1, 5)", 1, x.toPlain(1, 5));
        check.due("getPlain(1)", -7, x.getPlain(1));
        check.due("get(5) stays", -7, x.get(5));
        check.due("toPlain(1, 0) from an empty one", 0, x.toPlain(1, 0));
        check.due("isFullPlain(1)", false, x.isFullPlain(1));
        check.due("toPlain(0, 5)", 1, x.toPlain(0, 5));
        check.due("getPlain(0)", -7, x.getPlain(0));
        check.due("nothing is asked", 0, x.house(2));
    }

    private static void fromPlain() {
        Maybehall x = new Maybehall();
        x.fillPlain(1, -7);
        check.due("fromPlain(5, 1)", 1, x.fromPlain(5, 1));
        check.due("get(5)", -7, x.get(5));
        check.due("getPlain(1) stays", -7, x.getPlain(1));
        check.due("fromPlain(5, 0) from an empty one", 0, x.fromPlain(5, 0));
        check.due("isEmpty(5)", true, x.isEmpty(5));
        check.due("nothing is asked", 0, x.house(2));
    }
}
