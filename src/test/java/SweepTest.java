/** Each NUMBER with each RULE, TURN, TEST and ORDER, by told numbers at the edges, against an OptionalHall. */
public final class SweepTest {
    private static final Check check = new Check();
    private static final int[] TOLD = {-999, -998, -500, -37, -3, -2, -1, 0, 1, 2, 3, 27, 500, 998, 999};
    private static final int FROM = 1;
    private static final int BOX = 4;

    public static void main(String[] args) {
        for (int number = -999; number <= 999; number++) {
            rulesAndTests(number);
            turns(number);
            orders(number);
        }
        for (int number : TOLD) {
            chains(number);
        }
        check.end();
    }

    private static void rulesAndTests(int number) {
        Maybehall x = new Maybehall();
        OptionalHall y = new OptionalHall();
        x.fill(FROM, number);
        y.fill(FROM, number);
        for (int by : TOLD) {
            for (int rule = 0; rule <= 5; rule++) {
                String call = "map by " + rule + " and " + by + " of " + number;
                check.due(call, y.map(BOX, FROM, rule, by), x.map(BOX, FROM, rule, by));
                check.due(call + " told", y.told(BOX), x.told(BOX));
            }
            for (int test = 0; test <= 4; test++) {
                String call = "filter by " + test + " and " + by + " of " + number;
                check.due(call, y.filter(BOX, FROM, test, by), x.filter(BOX, FROM, test, by));
                check.due(call + " told", y.told(BOX), x.told(BOX));
            }
        }
        check.due("ASKED, of " + number, y.house(2), x.house(2));
    }

    private static void turns(int number) {
        Maybehall x = new Maybehall();
        OptionalHall y = new OptionalHall();
        for (int box = 0; box < 5; box++) {
            int filled = box == FROM ? number : 10 * box;
            x.fill(box, filled);
            y.fill(box, filled);
        }
        for (int by : TOLD) {
            for (int turn = 0; turn <= 5; turn++) {
                String call = "turn by " + turn + " and " + by + " of " + number;
                check.due(call, y.turn(BOX, FROM, turn, by), x.turn(BOX, FROM, turn, by));
                check.due(call + " told", y.told(BOX), x.told(BOX));
            }
        }
        check.due("ASKED, of " + number, y.house(2), x.house(2));
    }

    private static void orders(int number) {
        Maybehall x = new Maybehall();
        OptionalHall y = new OptionalHall();
        x.fill(FROM, number);
        y.fill(FROM, number);
        for (int other : TOLD) {
            x.fill(BOX, other);
            y.fill(BOX, other);
            String these = number + " and " + other;
            for (int order = 0; order <= 2; order++) {
                check.due("compare by " + order + ": " + these, y.compare(FROM, BOX, order), x.compare(FROM, BOX, order));
                check.due("compare back by " + order + ": " + these, y.compare(BOX, FROM, order), x.compare(BOX, FROM, order));
            }
            check.due("isLike: " + these, y.isLike(FROM, BOX), x.isLike(FROM, BOX));
            check.due("areLike: " + these, y.areLike(FROM, BOX), x.areLike(FROM, BOX));
            check.due("codes: " + these, y.codes(FROM, BOX, FROM), x.codes(FROM, BOX, FROM));
        }
        check.due("code: " + number, y.code(FROM), x.code(FROM));
        check.due("digest: " + number, y.digest(), x.digest());
    }

    private static void chains(int number) {
        for (int by : TOLD) {
            Maybehall x = new Maybehall();
            OptionalHall y = new OptionalHall();
            x.fill(FROM, number);
            y.fill(FROM, number);
            for (int rule = 0; rule <= 5; rule++) {
                for (int turn = 0; turn <= 4; turn++) {
                    String call = "both by " + rule + ", " + turn + " and " + by + " of " + number;
                    check.due(call, y.both(BOX, FROM, rule, turn, by), x.both(BOX, FROM, rule, turn, by));
                    check.due(call + " told", y.told(BOX), x.told(BOX));
                    check.due(call + " ASKED", y.house(2), x.house(2));
                }
            }
        }
    }
}
