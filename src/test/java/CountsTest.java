/**
 * What each method counts as ASKED, SUM, GOT, LEFT, REFUSED and knocks, of a full box and of an empty one, and what it
 * doesn't count; and that it changes no box but the one that it is told to.
 */
public final class CountsTest {
    private static final Check check = new Check();
    private static final String[] COUNTS = {"ASKED", "SUM", "GOT", "LEFT", "REFUSED", "knocks"};
    private static final int FIRST_COUNT = 2;
    private static final int NO_BOX = -1;
    private static final int PLAIN = 6;

    private interface Call {
        void to(Maybehall hall);
    }

    public static void main(String[] args) {
        filling();
        rules();
        turns();
        tests();
        chains();
        others();
        takers();
        givers();
        refusals();
        looking();
        plainBoxes();
        numbers();
        hall();
        thrown();
        check.end();
    }

    private static void filling() {
        counted("fill(0, 9)", 0, x -> x.fill(0, 9));
        counted("fill(2, 9)", 2, x -> x.fill(2, 9));
        counted("empty(0)", 0, x -> x.empty(0));
        counted("empty(2)", 2, x -> x.empty(2));
        counted("fillMaybe(0, 9, true)", 0, x -> x.fillMaybe(0, 9, true));
        counted("fillMaybe(0, 9, false)", 0, x -> x.fillMaybe(0, 9, false));
        counted("copy(5, 0)", 5, x -> x.copy(5, 0));
        counted("copy(0, 2)", 0, x -> x.copy(0, 2));
        counted("wrap(5, 0)", 5, x -> x.wrap(5, 0));
        counted("wrap(0, 2)", 0, x -> x.wrap(0, 2));
    }

    private static void rules() {
        for (int rule = 0; rule <= 5; rule++) {
            int told = rule;
            counted("map(5, 0, " + rule + ", 3)", 5, x -> x.map(5, 0, told, 3), 1);
            counted("map(5, 2, " + rule + ", 3) of nothing", 5, x -> x.map(5, 2, told, 3));
            counted("map(0, 0, " + rule + ", 999)", 0, x -> x.map(0, 0, told, 999), 1);
            counted("map(2, 2, " + rule + ", 3) of nothing", 2, x -> x.map(2, 2, told, 3));
        }
    }

    private static void turns() {
        for (int turn = 0; turn <= 5; turn++) {
            int told = turn;
            counted("turn(5, 0, " + turn + ", 3)", 5, x -> x.turn(5, 0, told, 3), 1);
            counted("turn(5, 2, " + turn + ", 3) of nothing", 5, x -> x.turn(5, 2, told, 3));
            counted("turn(1, 1, " + turn + ", 999)", 1, x -> x.turn(1, 1, told, 999), 1);
            counted("turn(2, 2, " + turn + ", 3) of nothing", 2, x -> x.turn(2, 2, told, 3));
        }
    }

    private static void tests() {
        for (int test = 0; test <= 4; test++) {
            int told = test;
            counted("filter(5, 0, " + test + ", 3)", 5, x -> x.filter(5, 0, told, 3), 1);
            counted("filter(5, 2, " + test + ", 3) of nothing", 5, x -> x.filter(5, 2, told, 3));
            counted("filter(1, 1, " + test + ", 999)", 1, x -> x.filter(1, 1, told, 999), 1);
            counted("filter(2, 2, " + test + ", 3) of nothing", 2, x -> x.filter(2, 2, told, 3));
        }
    }

    /** Box 0 holds 4: RULE 0 by 996 makes 1000, which is nothing; RULE 0 by 995 makes 999, of which TURN 0 is empty. */
    private static void chains() {
        for (int turn = 0; turn <= 4; turn++) {
            int told = turn;
            counted("both(5, 0, 0, " + turn + ", 995)", 5, x -> x.both(5, 0, 0, told, 995), 2);
            counted("both(5, 0, 0, " + turn + ", 996)", 5, x -> x.both(5, 0, 0, told, 996), 1);
            counted("both(5, 0, 4, " + turn + ", 3)", 5, x -> x.both(5, 0, 4, told, 3), 2);
            counted("both(5, 0, 5, " + turn + ", 3)", 5, x -> x.both(5, 0, 5, told, 3), 1);
            counted("both(5, 2, 4, " + turn + ", 3) of nothing", 5, x -> x.both(5, 2, 4, told, 3));
        }
    }

    private static void others() {
        counted("or(5, 0, 1)", 5, x -> x.or(5, 0, 1));
        counted("or(5, 0, 2)", 5, x -> x.or(5, 0, 2));
        counted("or(5, 2, 0)", 5, x -> x.or(5, 2, 0), 1);
        counted("or(0, 2, 3)", 0, x -> x.or(0, 2, 3), 1);
        counted("or(0, 0, 0)", 0, x -> x.or(0, 0, 0));
        counted("or(2, 2, 2)", 2, x -> x.or(2, 2, 2), 1);
    }

    private static void takers() {
        counted("take(0)", NO_BOX, x -> x.take(0), 1, 4, 1);
        counted("take(1)", NO_BOX, x -> x.take(1), 1, -7, 1);
        counted("take(2)", NO_BOX, x -> x.take(2));
        counted("takeOrLeave(0)", NO_BOX, x -> x.takeOrLeave(0), 1, 4, 1);
        counted("takeOrLeave(2)", NO_BOX, x -> x.takeOrLeave(2), 1, 0, 0, 1);
        counted("takePlain(0)", NO_BOX, x -> x.takePlain(0), 1, 12, 1);
        counted("takePlain(1)", NO_BOX, x -> x.takePlain(1));
    }

    private static void givers() {
        counted("orElse(0, 9)", NO_BOX, x -> x.orElse(0, 9));
        counted("orElse(2, 9)", NO_BOX, x -> x.orElse(2, 9));
        counted("orElseGet(0, 9)", NO_BOX, x -> x.orElseGet(0, 9));
        counted("orElseGet(2, 9)", NO_BOX, x -> x.orElseGet(2, 9), 1);
        counted("orElseThrow(0)", NO_BOX, x -> x.orElseThrow(0));
        counted("mustElse(0, 9)", NO_BOX, x -> x.mustElse(0, 9));
        counted("mustElse(2, 9)", NO_BOX, x -> x.mustElse(2, 9));
        counted("orElsePlain(0, 9)", NO_BOX, x -> x.orElsePlain(0, 9));
        counted("orElsePlain(1, 9)", NO_BOX, x -> x.orElsePlain(1, 9));
    }

    private static void refusals() {
        counted("get(0)", NO_BOX, x -> x.get(0));
        counted("get(2)", NO_BOX, x -> x.get(2), 0, 0, 0, 0, 1);
        counted("must(0)", NO_BOX, x -> x.must(0));
        counted("must(2)", NO_BOX, x -> x.must(2), 0, 0, 0, 0, 1);
        counted("getPlain(0)", NO_BOX, x -> x.getPlain(0));
        counted("getPlain(1)", NO_BOX, x -> x.getPlain(1), 0, 0, 0, 0, 1);
    }

    private static void looking() {
        for (int each = 0; each < 6; each++) {
            int box = each;
            counted("isFull(" + box + ")", NO_BOX, x -> x.isFull(box));
            counted("isEmpty(" + box + ")", NO_BOX, x -> x.isEmpty(box));
            counted("isNothing(" + box + ")", NO_BOX, x -> x.isNothing(box));
            counted("isSomething(" + box + ")", NO_BOX, x -> x.isSomething(box));
            counted("code(" + box + ")", NO_BOX, x -> x.code(box));
            counted("codeOf(" + box + ")", NO_BOX, x -> x.codeOf(box));
            counted("told(" + box + ")", NO_BOX, x -> x.told(box));
            counted("isLike(0, " + box + ")", NO_BOX, x -> x.isLike(0, box));
            counted("areLike(" + box + ", 2)", NO_BOX, x -> x.areLike(box, 2));
        }
    }

    private static void plainBoxes() {
        counted("fillPlain(0, 9)", PLAIN, x -> x.fillPlain(0, 9));
        counted("fillPlain(1, 9)", PLAIN + 1, x -> x.fillPlain(1, 9));
        counted("emptyPlain(0)", PLAIN, x -> x.emptyPlain(0));
        counted("emptyPlain(1)", PLAIN + 1, x -> x.emptyPlain(1));
        counted("isFullPlain(0)", NO_BOX, x -> x.isFullPlain(0));
        counted("isFullPlain(1)", NO_BOX, x -> x.isFullPlain(1));
        counted("arePlainLike()", NO_BOX, x -> x.arePlainLike());
        counted("toPlain(1, 0)", PLAIN + 1, x -> x.toPlain(1, 0));
        counted("toPlain(0, 2)", PLAIN, x -> x.toPlain(0, 2));
        counted("fromPlain(2, 0)", 2, x -> x.fromPlain(2, 0));
        counted("fromPlain(0, 1)", 0, x -> x.fromPlain(0, 1));
    }

    private static void numbers() {
        for (int each = 0; each < 3; each++) {
            int order = each;
            counted("compare(0, 1, " + order + ")", NO_BOX, x -> x.compare(0, 1, order));
            counted("compare(0, 2, " + order + ")", NO_BOX, x -> x.compare(0, 2, order));
            counted("compare(2, 3, " + order + ")", NO_BOX, x -> x.compare(2, 3, order));
        }
        counted("codes(0, 1, 2)", NO_BOX, x -> x.codes(0, 1, 2));
        counted("place(0, 1)", NO_BOX, x -> x.place(0, 1));
    }

    private static void hall() {
        counted("knock()", NO_BOX, x -> x.knock(), 0, 0, 0, 0, 0, 1);
        for (int each = 0; each <= 8; each++) {
            int what = each;
            counted("house(" + what + ")", NO_BOX, x -> x.house(what));
        }
        counted("isSound()", NO_BOX, x -> x.isSound());
        counted("digest()", NO_BOX, x -> x.digest());
    }

    /** What would be counted if it were not for the exception. */
    private static void thrown() {
        countedThrown("get(6)", x -> x.get(6));
        countedThrown("must(-1)", x -> x.must(-1));
        countedThrown("getPlain(2)", x -> x.getPlain(2));
        countedThrown("take(6)", x -> x.take(6));
        countedThrown("takeOrLeave(6)", x -> x.takeOrLeave(6));
        countedThrown("takePlain(-1)", x -> x.takePlain(-1));
        countedThrown("orElseGet(2, 1000)", x -> x.orElseGet(2, 1000));
        countedThrown("orElseThrow(2)", x -> x.orElseThrow(2));
        countedThrown("or(5, 2, 6)", x -> x.or(5, 2, 6));
        countedThrown("or(6, 2, 0)", x -> x.or(6, 2, 0));
        countedThrown("map(5, 0, 6, 3)", x -> x.map(5, 0, 6, 3));
        countedThrown("map(5, 0, 0, 1000)", x -> x.map(5, 0, 0, 1000));
        countedThrown("map(6, 0, 0, 3)", x -> x.map(6, 0, 0, 3));
        countedThrown("turn(5, 0, 6, 3)", x -> x.turn(5, 0, 6, 3));
        countedThrown("filter(5, 0, 5, 3)", x -> x.filter(5, 0, 5, 3));
        countedThrown("both(5, 0, 4, 5, 3)", x -> x.both(5, 0, 4, 5, 3));
    }

    private static void countedThrown(String call, Call made) {
        counted(call, NO_BOX, x -> {
            boolean isThrown = false;
            try {
                made.to(x);
            } catch (IllegalArgumentException | IllegalStateException | IndexOutOfBoundsException e) {
                isThrown = true;
            }
            check.due(call + " throws", true, isThrown);
        });
    }

    /** The written box may change (6 and 7 are the plain ones), no other; added are the counts, 0 behind the last. */
    private static void counted(String call, int written, Call made, int... added) {
        Maybehall x = someHall();
        int[] counts = counts(x);
        String[] contents = contents(x);
        made.to(x);
        int[] countsThen = counts(x);
        String[] contentsThen = contents(x);
        for (int i = 0; i < COUNTS.length; i++) {
            check.due(COUNTS[i] + " by " + call, i < added.length ? added[i] : 0, countsThen[i] - counts[i]);
        }
        for (int i = 0; i < contents.length; i++) {
            if (i != written) {
                check.due("box " + i + " behind " + call, contents[i], contentsThen[i]);
            }
        }
    }

    /** Boxes 0, 1 and 4 and the plain box 0 are full; no count is 0, so that one set anew would be seen. */
    private static Maybehall someHall() {
        Maybehall hall = new Maybehall();
        hall.fill(0, 4);
        hall.fill(1, -7);
        hall.fill(4, 88);
        hall.fillPlain(0, 12);
        hall.take(4);
        hall.takeOrLeave(3);
        hall.must(3);
        hall.knock();
        hall.knock();
        return hall;
    }

    private static int[] counts(Maybehall x) {
        int[] counts = new int[COUNTS.length];
        for (int i = 0; i < counts.length; i++) {
            counts[i] = x.house(FIRST_COUNT + i);
        }
        return counts;
    }

    private static String[] contents(Maybehall x) {
        String[] contents = new String[8];
        for (int box = 0; box < 6; box++) {
            contents[box] = x.told(box);
        }
        for (int plain = 0; plain < 2; plain++) {
            contents[PLAIN + plain] = x.isFullPlain(plain) ? String.valueOf(x.orElsePlain(plain, 0)) : "none";
        }
        return contents;
    }
}
