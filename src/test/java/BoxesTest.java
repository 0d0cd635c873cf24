/** Promises 1 to 11: a new object, and what a box becomes. */
public final class BoxesTest {
    private static final Check check = new Check();
    private static final int REFUSED = -9999;

    public static void main(String[] args) {
        newObject();
        fill();
        empty();
        fillMaybe();
        copy();
        mapByEachRule();
        mapAndAsked();
        turnByEachKind();
        turnToAnotherBox();
        turnAndAsked();
        filterByEachTest();
        filterAndAsked();
        or();
        wrap();
        both();
        check.end();
    }

    private static void newObject() {
        Maybehall x = new Maybehall();
        for (int box = 0; box < 6; box++) {
            check.due("isEmpty(" + box + ") of a new one", true, x.isEmpty(box));
        }
        for (int plain = 0; plain < 2; plain++) {
            check.due("isFullPlain(" + plain + ") of a new one", false, x.isFullPlain(plain));
        }
        for (int what = 0; what <= 8; what++) {
            check.due("house(" + what + ") of a new one", 0, x.house(what));
        }
        Maybehall y = new Maybehall();
        x.fill(0, 1);
        x.fillPlain(0, 1);
        x.knock();
        check.due("another new one stays empty", 0, y.house(0) + y.house(7) + y.house(8));
    }

    private static void fill() {
        Maybehall x = new Maybehall();
        check.due("fill(0, 5)", 0, x.fill(0, 5));
        check.due("get(0)", 5, x.get(0));
        check.due("fill(0, -999) of a full one", 1, x.fill(0, -999));
        check.due("get(0) at the least", -999, x.get(0));
        check.due("fill(5, 999)", 0, x.fill(5, 999));
        check.due("get(5) at the greatest", 999, x.get(5));
        check.due("fill(5, 0)", 1, x.fill(5, 0));
        check.due("isFull(5) with 0", true, x.isFull(5));
        check.due("isFull(4), never filled", false, x.isFull(4));
    }

    private static void empty() {
        Maybehall x = new Maybehall();
        check.due("empty(0) of an empty one", 0, x.empty(0));
        x.fill(0, 0);
        x.fill(5, 7);
        check.due("empty(5) of a full one", 1, x.empty(5));
        check.due("empty(5) again", 0, x.empty(5));
        check.due("isEmpty(5)", true, x.isEmpty(5));
        check.due("get(0), another one", 0, x.get(0));
        check.due("empty(0) of one with 0", 1, x.empty(0));
    }

    private static void fillMaybe() {
        Maybehall x = new Maybehall();
        check.due("fillMaybe(1, 8, true)", 1, x.fillMaybe(1, 8, true));
        check.due("get(1)", 8, x.get(1));
        check.due("fillMaybe(1, -999, true) of a full one", 1, x.fillMaybe(1, -999, true));
        check.due("get(1)", -999, x.get(1));
        check.due("fillMaybe(1, 999, false)", 0, x.fillMaybe(1, 999, false));
        check.due("isEmpty(1)", true, x.isEmpty(1));
    }

    private static void copy() {
        Maybehall x = new Maybehall();
        x.fill(2, -3);
        check.due("copy(4, 2)", 1, x.copy(4, 2));
        check.due("get(4)", -3, x.get(4));
        check.due("get(2) stays", -3, x.get(2));
        check.due("copy(2, 2)", 1, x.copy(2, 2));
        check.due("get(2)", -3, x.get(2));
        check.due("copy(4, 0) from an empty one", 0, x.copy(4, 0));
        check.due("isEmpty(4)", true, x.isEmpty(4));
        check.due("copy(0, 0) of an empty one", 0, x.copy(0, 0));
        check.due("copying asks nothing", 0, x.house(2));
    }

    private static void mapByEachRule() {
        mapped(10, 0, 5, 15);
        mapped(990, 0, 9, 999);
        mapped(990, 0, 10, REFUSED);
        mapped(-990, 0, -9, -999);
        mapped(-990, 0, -10, REFUSED);
        mapped(999, 0, 999, REFUSED);
        mapped(37, 1, 27, 999);
        mapped(-37, 1, 27, -999);
        mapped(-37, 1, -27, 999);
        mapped(500, 1, 2, REFUSED);
        mapped(500, 1, -2, REFUSED);
        mapped(-999, 1, -999, REFUSED);
        mapped(999, 1, 0, 0);
        mapped(10, 2, 3, -7);
        mapped(-900, 2, 99, 999);
        mapped(-900, 2, 100, REFUSED);
        mapped(900, 2, -99, -999);
        mapped(900, 2, -100, REFUSED);
        mapped(10, 3, 9, 10);
        mapped(10, 3, 10, 10);
        mapped(10, 3, 11, REFUSED);
        mapped(-999, 3, -999, -999);
        mapped(7, 4, 999, 7);
        mapped(-999, 4, 0, -999);
        mapped(7, 5, 0, REFUSED);
    }

    private static void mapped(int number, int rule, int by, int due) {
        Maybehall x = new Maybehall();
        x.fill(1, number);
        x.fill(2, 1);
        String call = "map(2, 1, " + rule + ", " + by + ") of " + number;
        check.due(call, due == REFUSED ? 0 : 1, x.map(2, 1, rule, by));
        check.due("get(2) after " + call, due, x.get(2));
        check.due("get(1) after " + call, number, x.get(1));
        check.due("house(2) after " + call, 1, x.house(2));
    }

    private static void mapAndAsked() {
        Maybehall x = new Maybehall();
        x.fill(3, 4);
        check.due("map(3, 0, 4, 0) from an empty one", 0, x.map(3, 0, 4, 0));
        check.due("isEmpty(3)", true, x.isEmpty(3));
        check.due("an empty one asks no rule", 0, x.house(2));
        x.fill(3, 4);
        check.due("map(3, 3, 1, 4) onto itself", 1, x.map(3, 3, 1, 4));
        check.due("get(3)", 16, x.get(3));
        check.due("map(3, 3, 5, 4) onto itself", 0, x.map(3, 3, 5, 4));
        check.due("both were asked", 2, x.house(2));
    }

    private static void turnByEachKind() {
        turned(990, 0, 9, 999);
        turned(990, 0, 10, REFUSED);
        turned(10, 0, -10, 0);
        turned(10, 0, -11, REFUSED);
        turned(0, 1, 7, 0);
        turned(2, 1, 7, 1);
        turned(-2, 1, 7, -1);
        turned(998, 1, 7, 499);
        turned(-998, 1, 7, -499);
        turned(1, 1, 7, REFUSED);
        turned(-1, 1, 7, REFUSED);
        turned(999, 1, 7, REFUSED);
        turned(10, 2, 10, 0);
        turned(10, 2, 11, REFUSED);
        turned(990, 2, -9, 999);
        turned(990, 2, -10, REFUSED);
        turned(10, 3, 0, REFUSED);
        turned(-10, 4, 999, -10);
        turned(999, 4, -999, 999);
    }

    private static void turned(int number, int turn, int by, int due) {
        Maybehall x = new Maybehall();
        x.fill(1, number);
        x.fill(2, 1);
        String call = "turn(2, 1, " + turn + ", " + by + ") of " + number;
        check.due(call, due == REFUSED ? 0 : 1, x.turn(2, 1, turn, by));
        check.due("get(2) after " + call, due, x.get(2));
        check.due("get(1) after " + call, number, x.get(1));
        check.due("house(2) after " + call, 1, x.house(2));
    }

    private static void turnToAnotherBox() {
        for (int number = -999; number <= 999; number++) {
            int looked = ((number % 6) + 6) % 6;
            if (looked == 0) {
                continue;
            }
            Maybehall x = new Maybehall();
            for (int box = 1; box < 6; box++) {
                x.fill(box, 100 + box);
            }
            x.fill(0, number);
            check.due("turn(0, 0, 5, 0) of " + number, 1, x.turn(0, 0, 5, 0));
            check.due("get(0) after turn(0, 0, 5, 0) of " + number, 100 + looked, x.get(0));
        }
        Maybehall x = new Maybehall();
        x.fill(0, -6);
        x.fill(1, 3);
        check.due("turn(2, 0, 5, 0) of -6", 1, x.turn(2, 0, 5, 0));
        check.due("get(2): box 0 itself", -6, x.get(2));
        check.due("turn(2, 1, 5, 0) of 3, an empty one", 0, x.turn(2, 1, 5, 0));
        check.due("isEmpty(2)", true, x.isEmpty(2));
        x.fill(5, 1);
        x.fill(3, 5);
        check.due("turn(5, 3, 5, 0) looks at 5 as it is ahead of that", 1, x.turn(5, 3, 5, 0));
        check.due("get(5)", 1, x.get(5));
        x.empty(4);
        x.fill(3, 4);
        check.due("turn(4, 3, 5, 0) looks at 4 as it is ahead of that", 0, x.turn(4, 3, 5, 0));
        check.due("house(2)", 4, x.house(2));
    }

    private static void turnAndAsked() {
        Maybehall x = new Maybehall();
        for (int turn = 0; turn <= 5; turn++) {
            x.fill(3, 4);
            check.due("turn(3, 0, " + turn + ", 0) from an empty one", 0, x.turn(3, 0, turn, 0));
            check.due("isEmpty(3)", true, x.isEmpty(3));
        }
        check.due("an empty one asks no turn", 0, x.house(2));
        x.fill(3, 8);
        check.due("turn(3, 3, 1, 0) onto itself", 1, x.turn(3, 3, 1, 0));
        check.due("turn(3, 3, 1, 0) onto itself", 1, x.turn(3, 3, 1, 0));
        check.due("get(3)", 2, x.get(3));
        check.due("turn(3, 3, 3, 0) onto itself", 0, x.turn(3, 3, 3, 0));
        check.due("all three were asked", 3, x.house(2));
    }

    private static void filterByEachTest() {
        filtered(10, 0, 9, true);
        filtered(10, 0, 10, false);
        filtered(10, 1, 11, true);
        filtered(10, 1, 10, false);
        filtered(-5, 0, -6, true);
        filtered(-5, 1, -6, false);
        filtered(4, 2, 0, true);
        filtered(4, 2, -2, true);
        filtered(4, 2, 7, false);
        filtered(-3, 2, 7, true);
        filtered(3, 2, -7, true);
        filtered(-3, 2, -7, true);
        filtered(-3, 2, 2, false);
        filtered(-4, 2, -3, false);
        filtered(-999, 3, 999, true);
        filtered(5, 3, 5, true);
        filtered(999, 4, -999, false);
        filtered(5, 4, 5, false);
        filtered(0, 0, -1, true);
        filtered(0, 1, 0, false);
        filtered(0, 2, -998, true);
    }

    private static void filtered(int number, int test, int by, boolean isLet) {
        Maybehall x = new Maybehall();
        x.fill(1, number);
        x.fill(2, 1);
        String call = "filter(2, 1, " + test + ", " + by + ") of " + number;
        check.due(call, isLet ? 1 : 0, x.filter(2, 1, test, by));
        check.due("get(2) after " + call, isLet ? number : REFUSED, x.get(2));
        check.due("get(1) after " + call, number, x.get(1));
        check.due("house(2) after " + call, 1, x.house(2));
    }

    private static void filterAndAsked() {
        Maybehall x = new Maybehall();
        x.fill(3, 4);
        check.due("filter(3, 0, 3, 0) from an empty one", 0, x.filter(3, 0, 3, 0));
        check.due("isEmpty(3)", true, x.isEmpty(3));
        check.due("an empty one asks no test", 0, x.house(2));
        x.fill(3, 4);
        check.due("filter(3, 3, 3, 0) onto itself", 1, x.filter(3, 3, 3, 0));
        check.due("filter(3, 3, 4, 0) onto itself", 0, x.filter(3, 3, 4, 0));
        check.due("both were asked", 2, x.house(2));
    }

    private static void or() {
        Maybehall x = new Maybehall();
        x.fill(1, 0);
        x.fill(2, 22);
        check.due("or(0, 1, 2) of two full ones", 1, x.or(0, 1, 2));
        check.due("get(0): the first one", 0, x.get(0));
        check.due("or(0, 1, 4): the second one is empty", 1, x.or(0, 1, 4));
        check.due("get(0): the first one", 0, x.get(0));
        check.due("a full first one asks no giver", 0, x.house(2));
        check.due("or(0, 4, 2): the first one is empty", 1, x.or(0, 4, 2));
        check.due("get(0): the second one", 22, x.get(0));
        check.due("an empty first one asks the giver", 1, x.house(2));
        check.due("or(0, 4, 5) of two empty ones", 0, x.or(0, 4, 5));
        check.due("isEmpty(0)", true, x.isEmpty(0));
        check.due("the giver was asked again", 2, x.house(2));
        check.due("or(4, 4, 2) onto the first one", 1, x.or(4, 4, 2));
        check.due("get(4)", 22, x.get(4));
        check.due("or(2, 5, 2) onto the second one", 1, x.or(2, 5, 2));
        check.due("get(2)", 22, x.get(2));
        check.due("house(2)", 4, x.house(2));
    }

    private static void wrap() {
        Maybehall x = new Maybehall();
        x.fill(1, -44);
        check.due("wrap(5, 1)", 1, x.wrap(5, 1));
        check.due("get(5)", -44, x.get(5));
        check.due("get(1) stays", -44, x.get(1));
        check.due("wrap(1, 1)", 1, x.wrap(1, 1));
        check.due("wrap(5, 2) from an empty one", 0, x.wrap(5, 2));
        check.due("isEmpty(5)", true, x.isEmpty(5));
        check.due("isEmpty(0), never told", true, x.isEmpty(0));
        check.due("wrapping asks nothing", 0, x.house(2));
    }

    private static void both() {
        bothMade(4, 0, 1, 2, 3, 2);
        bothMade(4, 0, 1, 3, REFUSED, 2);
        bothMade(4, 2, 0, 9, 14, 2);
        bothMade(4, 5, 4, 3, REFUSED, 1);
        bothMade(4, 3, 4, 5, REFUSED, 1);
        bothMade(999, 0, 4, 1, REFUSED, 1);
        bothMade(-999, 1, 4, -999, REFUSED, 1);
        bothMade(-4, 1, 1, -3, 6, 2);
        bothMade(7, 4, 2, 8, REFUSED, 2);
        bothMade(7, 4, 3, 0, REFUSED, 2);
        Maybehall x = new Maybehall();
        x.fill(2, 1);
        check.due("both(2, 0, 4, 4, 0) from an empty one", 0, x.both(2, 0, 4, 4, 0));
        check.due("isEmpty(2)", true, x.isEmpty(2));
        check.due("an empty one asks neither", 0, x.house(2));
        x.fill(2, 6);
        check.due("both(2, 2, 0, 0, 10) onto itself", 1, x.both(2, 2, 0, 0, 10));
        check.due("get(2)", 26, x.get(2));
    }

    private static void bothMade(int number, int rule, int turn, int by, int due, int asked) {
        Maybehall x = new Maybehall();
        x.fill(1, number);
        x.fill(2, 1);
        String call = "both(2, 1, " + rule + ", " + turn + ", " + by + ") of " + number;
        check.due(call, due == REFUSED ? 0 : 1, x.both(2, 1, rule, turn, by));
        check.due("get(2) after " + call, due, x.get(2));
        check.due("get(1) after " + call, number, x.get(1));
        check.due("house(2) after " + call, asked, x.house(2));
    }
}
