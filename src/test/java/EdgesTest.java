import java.math.BigInteger;

/** A test for each sentence of the document that names an edge, and that no other test looks at by name. */
public final class EdgesTest {
    private static final Check check = new Check();
    private static final int REFUSED = -9999;
    private static final Class<IllegalArgumentException> ARGUMENT = IllegalArgumentException.class;
    private static final Class<IndexOutOfBoundsException> INDEX = IndexOutOfBoundsException.class;
    private static final Class<IllegalStateException> STATE = IllegalStateException.class;

    public static void main(String[] args) {
        numbersAtTheirEdges();
        rulesByTheEdges();
        turnsByTheEdges();
        halves();
        remainders();
        turnThatLooksAtItself();
        testsByTheEdges();
        ontoItself();
        orOntoItself();
        chainsAtTheirEdges();
        sumsWithoutAnEdge();
        giversWithoutAnEdge();
        firstNamedException();
        missingNumberIsNamedAnyway();
        boxesAndPlainBoxes();
        ordersOfNothing();
        codesWithNothing();
        toldAtTheEdges();
        placesAndLengths();
        houseAtItsEdges();
        lastCall();
        digestThatWrapsAround();
        digestBehindExceptions();
        soundAndDigestChangeNothing();
        check.end();
    }

    private static void numbersAtTheirEdges() {
        for (int number : new int[] {-999, 999}) {
            Maybehall x = new Maybehall();
            x.fill(0, number);
            x.fillMaybe(1, number, true);
            x.fillPlain(0, number);
            check.due("fill of " + number, number, x.get(0));
            check.due("fillMaybe of " + number, number, x.get(1));
            check.due("fillPlain of " + number, number, x.getPlain(0));
            check.due("orElse of " + number, number, x.orElse(5, number));
            check.due("orElseGet of " + number, number, x.orElseGet(5, number));
            check.due("orElsePlain of " + number, number, x.orElsePlain(1, number));
            check.due("mustElse of " + number, number, x.mustElse(5, number));
        }
        for (int number : new int[] {-1000, 1000, Integer.MIN_VALUE, Integer.MAX_VALUE}) {
            Maybehall x = new Maybehall();
            x.fill(0, 1);
            x.fillPlain(0, 1);
            // Box 0 is full, so nothing is made of the number there; it has to be one all the same.
            for (int box = 0; box < 2; box++) {
                int told = box;
                check.thrownWithoutChange("fill of " + number, ARGUMENT, x, () -> x.fill(told, number));
                check.thrownWithoutChange("fillPlain of " + number, ARGUMENT, x, () -> x.fillPlain(told, number));
                check.thrownWithoutChange("orElse of " + number, ARGUMENT, x, () -> x.orElse(told, number));
                check.thrownWithoutChange("orElseGet of " + number, ARGUMENT, x, () -> x.orElseGet(told, number));
                check.thrownWithoutChange("orElsePlain of " + number, ARGUMENT, x, () -> x.orElsePlain(told, number));
                check.thrownWithoutChange("mustElse of " + number, ARGUMENT, x, () -> x.mustElse(told, number));
                check.thrownWithoutChange("map by " + number, ARGUMENT, x, () -> x.map(2, told, 4, number));
                check.thrownWithoutChange("turn by " + number, ARGUMENT, x, () -> x.turn(2, told, 4, number));
                check.thrownWithoutChange("filter by " + number, ARGUMENT, x, () -> x.filter(2, told, 3, number));
                check.thrownWithoutChange("both by " + number, ARGUMENT, x, () -> x.both(2, told, 4, 4, number));
            }
        }
    }

    private static void rulesByTheEdges() {
        mapped(0, 0, 999, 999);
        mapped(1, 0, 999, REFUSED);
        mapped(0, 0, -999, -999);
        mapped(-1, 0, -999, REFUSED);
        mapped(1, 1, 999, 999);
        mapped(-1, 1, -999, 999);
        mapped(-1, 1, 999, -999);
        mapped(2, 1, 999, REFUSED);
        mapped(-2, 1, 999, REFUSED);
        mapped(500, 1, 2, REFUSED);
        mapped(333, 1, -3, -999);
        mapped(0, 1, -999, 0);
        mapped(0, 2, 999, 999);
        mapped(-1, 2, 999, REFUSED);
        mapped(0, 2, -999, -999);
        mapped(1, 2, -999, REFUSED);
        mapped(999, 2, 999, 0);
        mapped(-999, 2, 0, 999);
        mapped(999, 3, 999, 999);
        mapped(998, 3, 999, REFUSED);
        mapped(0, 3, 0, 0);
        mapped(-1, 3, 0, REFUSED);
        mapped(999, 3, -999, 999);
        mapped(-999, 4, 999, -999);
        mapped(999, 4, -999, 999);
        mapped(999, 5, 999, REFUSED);
        mapped(-999, 5, -999, REFUSED);
    }

    private static void mapped(int number, int rule, int by, int due) {
        Maybehall x = new Maybehall();
        x.fill(4, number);
        String call = "map(5, 4, " + rule + ", " + by + ") of " + number;
        check.due(call, due == REFUSED ? 0 : 1, x.map(5, 4, rule, by));
        check.due("must(5) after " + call, due, x.must(5));
    }

    private static void turnsByTheEdges() {
        turned(0, 0, 999, 999);
        turned(1, 0, 999, REFUSED);
        turned(999, 0, -999, 0);
        turned(998, 0, -999, REFUSED);
        turned(-999, 0, 999, 0);
        turned(-5, 0, 4, REFUSED);
        turned(0, 2, -999, 999);
        turned(1, 2, -999, REFUSED);
        turned(999, 2, 999, 0);
        turned(998, 2, 999, REFUSED);
        turned(-999, 2, -999, 0);
        turned(-5, 2, -4, REFUSED);
        turned(999, 3, 999, REFUSED);
        turned(0, 3, 0, REFUSED);
        turned(-999, 4, -999, -999);
        turned(-1, 4, 0, -1);
    }

    private static void turned(int number, int turn, int by, int due) {
        Maybehall x = new Maybehall();
        x.fill(4, number);
        String call = "turn(3, 4, " + turn + ", " + by + ") of " + number;
        check.due(call, due == REFUSED ? 0 : 1, x.turn(3, 4, turn, by));
        check.due("must(3) after " + call, due, x.must(3));
    }

    private static void halves() {
        turned(0, 1, 0, 0);
        turned(2, 1, 0, 1);
        turned(-2, 1, 0, -1);
        turned(1, 1, 0, REFUSED);
        turned(-1, 1, 0, REFUSED);
        turned(3, 1, 0, REFUSED);
        turned(-3, 1, 0, REFUSED);
        turned(4, 1, 999, 2);
        turned(-4, 1, -999, -2);
        turned(-998, 1, 1, -499);
        turned(-999, 1, 1, REFUSED);
    }

    private static void remainders() {
        looked(0, 0);
        looked(5, 5);
        looked(6, 0);
        looked(-1, 5);
        looked(-5, 1);
        looked(-6, 0);
        looked(-7, 5);
        looked(-12, 0);
        looked(999, 3);
        looked(-999, 3);
    }

    /** TURN 5 of a number in box 2 fills box 4; box 2 itself is none of those that are looked at here. */
    private static void looked(int number, int due) {
        for (int by : new int[] {-999, 0, 999}) {
            Maybehall x = new Maybehall();
            for (int box = 0; box < 6; box++) {
                x.fill(box, 700 + box);
            }
            x.fill(2, number);
            String call = "turn(4, 2, 5, " + by + ") of " + number;
            check.due(call, 1, x.turn(4, 2, 5, by));
            check.due("get(4) after " + call, 700 + due, x.get(4));
            x.empty(due);
            check.due(call + ", which is empty", 0, x.turn(4, 2, 5, by));
            check.due("isEmpty(4) after " + call, true, x.isEmpty(4));
        }
    }

    private static void turnThatLooksAtItself() {
        Maybehall x = new Maybehall();
        x.fill(1, -6);
        x.fill(0, 50);
        check.due("turn(0, 1, 5, 0) of -6: box 0 as it is ahead of that", 1, x.turn(0, 1, 5, 0));
        check.due("get(0)", 50, x.get(0));
        x.fill(3, -3);
        check.due("turn(3, 3, 5, 0) of -3: box 3 is all three", 1, x.turn(3, 3, 5, 0));
        check.due("get(3)", -3, x.get(3));
        x.fill(5, -7);
        check.due("turn(5, 5, 5, 0) of -7: box 5 is all three", 1, x.turn(5, 5, 5, 0));
        check.due("get(5)", -7, x.get(5));
        x.fill(2, 4);
        check.due("turn(4, 2, 5, 0) of 4: box 4 is empty ahead of that", 0, x.turn(4, 2, 5, 0));
        check.due("isEmpty(4)", true, x.isEmpty(4));
        check.due("turn(2, 2, 5, 0) of 4 onto itself: box 4 is empty", 0, x.turn(2, 2, 5, 0));
        check.due("isEmpty(2)", true, x.isEmpty(2));
        check.due("ASKED each time", 5, x.house(2));
    }

    private static void testsByTheEdges() {
        filtered(-998, 0, -999, true);
        filtered(-999, 0, -999, false);
        filtered(999, 0, 998, true);
        filtered(999, 0, 999, false);
        filtered(998, 1, 999, true);
        filtered(999, 1, 999, false);
        filtered(-999, 1, -998, true);
        filtered(-999, 1, -999, false);
        filtered(0, 2, 0, true);
        filtered(0, 2, 1, false);
        filtered(0, 2, -1, false);
        filtered(1, 2, -1, true);
        filtered(-1, 2, 1, true);
        filtered(-1, 2, 0, false);
        filtered(-2, 2, 2, true);
        filtered(-999, 2, 999, true);
        filtered(-999, 2, 998, false);
        filtered(-999, 3, -999, true);
        filtered(999, 3, 999, true);
        filtered(-999, 4, -999, false);
        filtered(999, 4, 999, false);
    }

    private static void filtered(int number, int test, int by, boolean isLet) {
        Maybehall x = new Maybehall();
        x.fill(4, number);
        String call = "filter(0, 4, " + test + ", " + by + ") of " + number;
        check.due(call, isLet ? 1 : 0, x.filter(0, 4, test, by));
        check.due("must(0) after " + call, isLet ? number : REFUSED, x.must(0));
    }

    private static void ontoItself() {
        Maybehall x = new Maybehall();
        check.due("copy(3, 3) of an empty one", 0, x.copy(3, 3));
        check.due("wrap(3, 3) of an empty one", 0, x.wrap(3, 3));
        check.due("map(3, 3, 4, 0) of an empty one", 0, x.map(3, 3, 4, 0));
        check.due("turn(3, 3, 4, 0) of an empty one", 0, x.turn(3, 3, 4, 0));
        check.due("filter(3, 3, 3, 0) of an empty one", 0, x.filter(3, 3, 3, 0));
        check.due("both(3, 3, 4, 4, 0) of an empty one", 0, x.both(3, 3, 4, 4, 0));
        check.due("isEmpty(3)", true, x.isEmpty(3));
        check.due("nothing was asked", 0, x.house(2));
        x.fill(3, 7);
        check.due("copy(3, 3)", 1, x.copy(3, 3));
        check.due("wrap(3, 3)", 1, x.wrap(3, 3));
        check.due("map(3, 3, 2, 0)", 1, x.map(3, 3, 2, 0));
        check.due("get(3)", -7, x.get(3));
        check.due("turn(3, 3, 0, 15)", 1, x.turn(3, 3, 0, 15));
        check.due("get(3)", 8, x.get(3));
        check.due("filter(3, 3, 2, -2)", 1, x.filter(3, 3, 2, -2));
        check.due("get(3)", 8, x.get(3));
        check.due("both(3, 3, 1, 1, 3)", 1, x.both(3, 3, 1, 1, 3));
        check.due("get(3)", 12, x.get(3));
        check.due("map(3, 3, 3, 13)", 0, x.map(3, 3, 3, 13));
        check.due("isEmpty(3) then", true, x.isEmpty(3));
        check.due("ASKED", 6, x.house(2));
    }

    private static void orOntoItself() {
        Maybehall x = new Maybehall();
        check.due("or(3, 3, 3) of an empty one", 0, x.or(3, 3, 3));
        check.due("the giver was asked", 1, x.house(2));
        x.fill(3, -1);
        check.due("or(3, 3, 3) of a full one", 1, x.or(3, 3, 3));
        check.due("get(3)", -1, x.get(3));
        check.due("or(3, 3, 4) onto the first one, that is full", 1, x.or(3, 3, 4));
        check.due("get(3)", -1, x.get(3));
        check.due("or(4, 3, 4) onto the second one, that is empty", 1, x.or(4, 3, 4));
        check.due("get(4)", -1, x.get(4));
        check.due("the giver was not asked", 1, x.house(2));
        check.due("or(3, 5, 0): both are empty", 0, x.or(3, 5, 0));
        check.due("isEmpty(3)", true, x.isEmpty(3));
        check.due("the giver was asked, though it gives an empty one", 2, x.house(2));
    }

    private static void chainsAtTheirEdges() {
        chained(999, 0, 4, 0, 999, 2);
        chained(998, 0, 4, 1, 999, 2);
        chained(999, 0, 4, 1, REFUSED, 1);
        chained(-999, 0, 4, -1, REFUSED, 1);
        chained(333, 0, 0, 333, 999, 2);
        chained(334, 0, 0, 333, REFUSED, 2);
        chained(0, 4, 2, 0, 0, 2);
        chained(0, 4, 2, 1, REFUSED, 2);
        chained(-1, 0, 1, 0, REFUSED, 2);
        chained(-1, 0, 1, -1, -1, 2);
        chained(999, 5, 3, 0, REFUSED, 1);
        chained(999, 4, 3, 0, REFUSED, 2);
    }

    private static void chained(int number, int rule, int turn, int by, int due, int asked) {
        Maybehall x = new Maybehall();
        x.fill(4, number);
        x.fill(0, 1);
        String call = "both(0, 4, " + rule + ", " + turn + ", " + by + ") of " + number;
        check.due(call, due == REFUSED ? 0 : 1, x.both(0, 4, rule, turn, by));
        check.due("must(0) after " + call, due, x.must(0));
        check.due("ASKED after " + call, asked, x.house(2));
    }

    /** The SUM is no NUMBER: it goes beyond 999. */
    private static void sumsWithoutAnEdge() {
        Maybehall x = new Maybehall();
        x.fill(0, 999);
        x.fillPlain(1, 999);
        check.due("take(0)", 999, x.take(0));
        check.due("takePlain(1)", 1998, x.takePlain(1));
        check.due("takeOrLeave(0)", 2997, x.takeOrLeave(0));
        x.fill(0, -999);
        for (int i = 1; i <= 8; i++) {
            check.due("take(0) of -999, " + i, 2997 - 999 * i, x.take(0));
        }
        check.due("SUM", -4995, x.house(3));
    }

    private static void giversWithoutAnEdge() {
        Maybehall x = new Maybehall();
        x.fill(0, 1);
        for (int i = 0; i < 300; i++) {
            x.map(0, 0, 4, 0);
        }
        check.due("orElseGet(1, 999) behind 300 asked", 1299, x.orElseGet(1, 999));
        check.due("orElseGet(1, -999) behind 301 asked", -698, x.orElseGet(1, -999));
        check.due("orElseGet(0, 999) of a full one", 1, x.orElseGet(0, 999));
        check.due("ASKED", 302, x.house(2));
    }

    private static void firstNamedException() {
        Maybehall x = new Maybehall();
        check.thrownWithoutChange("fill(6, 1000)", INDEX, x, () -> x.fill(6, 1000));
        check.thrownWithoutChange("fillMaybe(-1, 1000, false)", INDEX, x, () -> x.fillMaybe(-1, 1000, false));
        check.thrownWithoutChange("map(0, 6, 6, 0)", INDEX, x, () -> x.map(0, 6, 6, 0));
        check.thrownWithoutChange("map(-1, 0, 0, 1000)", INDEX, x, () -> x.map(-1, 0, 0, 1000));
        check.thrownWithoutChange("turn(0, 6, -1, 0)", INDEX, x, () -> x.turn(0, 6, -1, 0));
        check.thrownWithoutChange("filter(0, -1, 5, 0)", INDEX, x, () -> x.filter(0, -1, 5, 0));
        check.thrownWithoutChange("both(0, 6, 6, 5, 1000)", INDEX, x, () -> x.both(0, 6, 6, 5, 1000));
        check.thrownWithoutChange("orElse(6, 1000)", INDEX, x, () -> x.orElse(6, 1000));
        check.thrownWithoutChange("orElseGet(6, 1000)", INDEX, x, () -> x.orElseGet(6, 1000));
        check.thrownWithoutChange("orElseThrow(6)", INDEX, x, () -> x.orElseThrow(6));
        check.thrownWithoutChange("orElseThrow(-1)", INDEX, x, () -> x.orElseThrow(-1));
        check.thrownWithoutChange("orElseThrow(5)", STATE, x, () -> x.orElseThrow(5));
        check.thrownWithoutChange("fillPlain(2, 1000)", INDEX, x, () -> x.fillPlain(2, 1000));
        check.thrownWithoutChange("orElsePlain(-1, -1000)", INDEX, x, () -> x.orElsePlain(-1, -1000));
        check.thrownWithoutChange("compare(0, 6, 3)", INDEX, x, () -> x.compare(0, 6, 3));
        check.thrownWithoutChange("mustElse(6, 1000)", INDEX, x, () -> x.mustElse(6, 1000));
        check.thrownWithoutChange("place(-1, -1)", ARGUMENT, x, () -> x.place(-1, -1));
        check.thrownWithoutChange("place(1000, 1000)", ARGUMENT, x, () -> x.place(1000, 1000));
    }

    /** fillMaybe looks at the number whether it is there or not. */
    private static void missingNumberIsNamedAnyway() {
        Maybehall x = new Maybehall();
        x.fill(0, 5);
        for (boolean isThere : new boolean[] {true, false}) {
            for (int number : new int[] {-1000, 1000}) {
                check.thrownWithoutChange("fillMaybe(0, " + number + ", " + isThere + ")", ARGUMENT, x,
                    () -> x.fillMaybe(0, number, isThere));
            }
        }
        check.due("get(0) stays", 5, x.get(0));
        check.due("fillMaybe(0, -999, false)", 0, x.fillMaybe(0, -999, false));
        check.due("fillMaybe(0, -999, false) of an empty one", 0, x.fillMaybe(0, -999, false));
        check.due("fillMaybe(0, -999, true)", 1, x.fillMaybe(0, -999, true));
    }

    /** There are more BOXES than PLAIN boxes: 2 to 5 are BOXES alone. */
    private static void boxesAndPlainBoxes() {
        Maybehall x = new Maybehall();
        x.fill(5, 50);
        x.fill(2, 20);
        check.thrownWithoutChange("toPlain(2, 5)", INDEX, x, () -> x.toPlain(2, 5));
        check.thrownWithoutChange("toPlain(-1, 5)", INDEX, x, () -> x.toPlain(-1, 5));
        check.thrownWithoutChange("toPlain(1, 6)", INDEX, x, () -> x.toPlain(1, 6));
        check.thrownWithoutChange("toPlain(1, -1)", INDEX, x, () -> x.toPlain(1, -1));
        check.thrownWithoutChange("fromPlain(5, 2)", INDEX, x, () -> x.fromPlain(5, 2));
        check.thrownWithoutChange("fromPlain(5, -1)", INDEX, x, () -> x.fromPlain(5, -1));
        check.thrownWithoutChange("fromPlain(6, 1)", INDEX, x, () -> x.fromPlain(6, 1));
        check.thrownWithoutChange("fromPlain(-1, 1)", INDEX, x, () -> x.fromPlain(-1, 1));
        check.due("toPlain(1, 5)", 1, x.toPlain(1, 5));
        check.due("getPlain(1)", 50, x.getPlain(1));
        check.due("fromPlain(4, 1)", 1, x.fromPlain(4, 1));
        check.due("get(4)", 50, x.get(4));
        check.due("fromPlain(2, 0) from an empty one", 0, x.fromPlain(2, 0));
        check.due("isEmpty(2)", true, x.isEmpty(2));
        check.due("toPlain(1, 2) from an empty one", 0, x.toPlain(1, 2));
        check.due("arePlainLike(), both empty", true, x.arePlainLike());
    }

    private static void ordersOfNothing() {
        Maybehall x = new Maybehall();
        x.fill(2, 5);
        x.fill(3, -5);
        x.fill(4, -999);
        int[][] due = {
            // A row for each order: nothing and nothing, nothing and 5, 5 and nothing, 5 and -5, -5 and 5.
            {0, -1, 1, 1, -1},
            {0, 1, -1, -1, 1},
            {0, -1, 1, 0, 0},
        };
        for (int order = 0; order < 3; order++) {
            check.due("nothing and nothing by " + order, due[order][0], x.compare(0, 1, order));
            check.due("nothing and 5 by " + order, due[order][1], x.compare(0, 2, order));
            check.due("5 and nothing by " + order, due[order][2], x.compare(2, 0, order));
            check.due("5 and -5 by " + order, due[order][3], x.compare(2, 3, order));
            check.due("-5 and 5 by " + order, due[order][4], x.compare(3, 2, order));
        }
        check.due("nothing and -999 by 0", -1, x.compare(0, 4, 0));
        check.due("nothing and -999 by 1", 1, x.compare(0, 4, 1));
        check.due("nothing and -999 by 2", -1, x.compare(0, 4, 2));
        check.due("-5 and -999 by 0", 1, x.compare(3, 4, 0));
        check.due("-5 and -999 by 2", -1, x.compare(3, 4, 2));
        check.due("5 and -5 are not alike", false, x.isLike(2, 3));
    }

    private static void codesWithNothing() {
        Maybehall x = new Maybehall();
        x.fill(0, 1);
        x.fill(1, -20);
        x.fill(2, 300);
        // 31 * 31 * 31 is 29791, 31 * 31 is 961.
        check.due("codes(0, 1, 2)", 29791 + 961 - 620 + 300, x.codes(0, 1, 2));
        check.due("codes(3, 1, 2): nothing in the first", 29791 - 620 + 300, x.codes(3, 1, 2));
        check.due("codes(0, 3, 2): nothing in the second", 29791 + 961 + 300, x.codes(0, 3, 2));
        check.due("codes(0, 1, 3): nothing in the third", 29791 + 961 - 620, x.codes(0, 1, 3));
        check.due("codes(3, 4, 5): nothing in all", 29791, x.codes(3, 4, 5));
        x.fill(3, 0);
        check.due("codes(0, 3, 2): 0 is told as nothing is", 29791 + 961 + 300, x.codes(0, 3, 2));
        check.due("codes(2, 1, 0): the sequence counts", 29791 + 300 * 961 - 620 + 1, x.codes(2, 1, 0));
        check.thrownWithoutChange("codes(6, 0, 0)", INDEX, x, () -> x.codes(6, 0, 0));
        check.thrownWithoutChange("codes(0, -1, 0)", INDEX, x, () -> x.codes(0, -1, 0));
        check.thrownWithoutChange("codes(0, 0, 6)", INDEX, x, () -> x.codes(0, 0, 6));
    }

    private static void toldAtTheEdges() {
        Maybehall x = new Maybehall();
        int[] numbers = {-999, -1, 0, 999};
        String[] due = {"-999", "-1", "0", "999"};
        for (int i = 0; i < numbers.length; i++) {
            x.fill(5, numbers[i]);
            check.due("told(5) of " + numbers[i], due[i], x.told(5));
        }
        x.empty(5);
        check.due("told(5) of nothing", "none", x.told(5));
    }

    private static void placesAndLengths() {
        Maybehall x = new Maybehall();
        for (int length : new int[] {0, 1, 2, 998, 999}) {
            for (int place : new int[] {-1, length, length + 1, Integer.MIN_VALUE, Integer.MAX_VALUE}) {
                check.thrownWithoutChange("place(" + place + ", " + length + ")", INDEX, x, () -> x.place(place, length));
            }
            if (length > 0) {
                check.due("place(0, " + length + ")", 0, x.place(0, length));
                check.due("place(" + (length - 1) + ", " + length + ")", length - 1, x.place(length - 1, length));
            }
        }
        for (int length : new int[] {-1, 1000, Integer.MIN_VALUE, Integer.MAX_VALUE}) {
            for (int place : new int[] {-1, 0, 1, 999, 1000, Integer.MIN_VALUE, Integer.MAX_VALUE}) {
                check.thrownWithoutChange("place(" + place + ", " + length + ")", ARGUMENT, x, () -> x.place(place, length));
            }
        }
    }

    private static void houseAtItsEdges() {
        Maybehall x = new Maybehall();
        x.fillPlain(1, 5);
        x.fill(5, -5);
        for (int what : new int[] {-1, 9, Integer.MIN_VALUE, Integer.MAX_VALUE}) {
            check.thrownWithoutChange("house(" + what + ")", ARGUMENT, x, () -> x.house(what));
        }
        check.due("house(0)", 1, x.house(0));
        check.due("house(1)", -5, x.house(1));
        check.due("house(8)", 1, x.house(8));
        for (int box = 0; box < 6; box++) {
            x.fill(box, -999);
        }
        check.due("house(1) of all at the least", -5994, x.house(1));
    }

    private static void lastCall() {
        Maybehall x = new Maybehall();
        for (int call = 1; call <= 512; call++) {
            check.due("knock() as call " + call, call, x.knock());
        }
        Maybehall y = new Maybehall();
        y.fill(0, 999);
        for (int call = 2; call <= 512; call++) {
            check.due("take(0) as call " + call, 999 * (call - 1), y.take(0));
        }
        Maybehall z = new Maybehall();
        for (int call = 1; call < 512; call++) {
            z.get(0);
        }
        check.due("REFUSED, as call 512", 511, z.house(6));
    }

    /** The sum of a new object's digest without an edge, and the 64-bit integer that is left of it. */
    private static void digestThatWrapsAround() {
        BigInteger d = BigInteger.valueOf(7715);
        for (int count = 0; count < 9; count++) {
            d = next(d, 0);
        }
        for (int box = 0; box < 6; box++) {
            d = next(next(next(d, 0), 0), 4);
            for (int compared = 0; compared < 18; compared++) {
                d = next(d, 0);
            }
        }
        d = next(next(d, 29791), 29791);
        for (int plain = 0; plain < 2; plain++) {
            d = next(next(d, 0), 0);
        }
        d = next(d, 1);
        check.due("the sum is more than a 64-bit integer holds", true, d.bitLength() > 64);
        check.due("digest() of a new object", d.longValue(), new Maybehall().digest());
    }

    private static BigInteger next(BigInteger d, long v) {
        return d.multiply(BigInteger.valueOf(31)).add(BigInteger.valueOf(v));
    }

    private static void digestBehindExceptions() {
        long due = new Maybehall().digest();
        Maybehall x = new Maybehall();
        check.thrown("fill(6, 0)", INDEX, () -> x.fill(6, 0));
        check.thrown("fill(0, 1000)", ARGUMENT, () -> x.fill(0, 1000));
        check.thrown("take(-1)", INDEX, () -> x.take(-1));
        check.thrown("get(6)", INDEX, () -> x.get(6));
        check.thrown("orElseThrow(0)", STATE, () -> x.orElseThrow(0));
        check.thrown("orElseGet(0, -1000)", ARGUMENT, () -> x.orElseGet(0, -1000));
        check.thrown("fillPlain(2, 0)", INDEX, () -> x.fillPlain(2, 0));
        check.thrown("place(0, 0)", INDEX, () -> x.place(0, 0));
        check.thrown("house(9)", ARGUMENT, () -> x.house(9));
        check.due("digest() behind nine calls that throw", due, x.digest());
        check.due("digest() again", due, x.digest());
    }

    private static void soundAndDigestChangeNothing() {
        Maybehall x = new Maybehall();
        int[] numbers = {-999, -1, 0, 5, 999};
        for (int box = 0; box < numbers.length; box++) {
            x.fill(box, numbers[box]);
        }
        x.fillPlain(1, -5);
        x.take(3);
        x.takeOrLeave(5);
        x.get(5);
        x.knock();
        long before = x.digest();
        for (int i = 0; i < 3; i++) {
            check.due("isSound()", true, x.isSound());
            check.due("digest() behind isSound()", before, x.digest());
        }
        int[] due = {5, 4, 2, 5, 1, 1, 1, 1, 1};
        for (int what = 0; what < due.length; what++) {
            check.due("house(" + what + ") behind isSound() and digest()", due[what], x.house(what));
        }
        for (int box = 0; box < numbers.length; box++) {
            check.due("get(" + box + ") behind isSound() and digest()", numbers[box], x.get(box));
        }
        check.due("isEmpty(5) behind isSound() and digest()", true, x.isEmpty(5));
        check.due("getPlain(1) behind isSound() and digest()", -5, x.getPlain(1));
    }
}
