/** A hall of boxes, each with a number in it or with nothing; the document's promises say what each call answers. */
public final class Maybehall {
    private static final int BOXES = 6;
    private static final int PLAINS = 2;
    private static final int LEAST = -999;
    private static final int GREATEST = 999;
    private static final int REFUSED = -9999;
    // Stands in a row where there is no number; it is none of the numbers that a row may hold.
    private static final int NOTHING = -10000;

    private static final int RULES = 6;
    private static final int TURNS = 6;
    private static final int TESTS = 5;
    private static final int ORDERS = 3;
    private static final int COUNTS = 9;
    private static final int LONGEST = 999;

    // The last turn looks at other boxes, so it may not stand behind a rule, nor in isSound().
    private static final int TURNS_OF_NUMBERS = 5;
    private static final int TURN_FULL = 4;
    private static final int SOUND_BY = 3;

    private static final int CODE_START = 1;
    private static final long DIGEST_START = 7715;
    private static final int STEP = 31;

    private final int[] boxes;
    private final int[] plains;
    // Used again by each text, so that a digest makes no objects.
    private final StringBuilder text;
    private int asked;
    private int sum;
    private int got;
    private int left;
    private int refused;
    private int knocks;

    public Maybehall() {
        boxes = new int[BOXES];
        for (int box = 0; box < BOXES; box++) {
            boxes[box] = NOTHING;
        }
        plains = new int[PLAINS];
        for (int plain = 0; plain < PLAINS; plain++) {
            plains[plain] = NOTHING;
        }
        text = new StringBuilder();
    }

    // ---- boxes

    public int fill(int box, int number) throws IndexOutOfBoundsException, IllegalArgumentException {
        needBox(box);
        needNumber(number);
        int before = fullness(boxes[box]);
        boxes[box] = number;
        return before;
    }

    public int empty(int box) throws IndexOutOfBoundsException {
        needBox(box);
        int before = fullness(boxes[box]);
        boxes[box] = NOTHING;
        return before;
    }

    public int fillMaybe(int box, int number, boolean isThere) throws IndexOutOfBoundsException, IllegalArgumentException {
        needBox(box);
        needNumber(number);
        boxes[box] = isThere ? number : NOTHING;
        return fullness(boxes[box]);
    }

    public int copy(int box, int from) throws IndexOutOfBoundsException {
        needBox(box);
        needBox(from);
        boxes[box] = boxes[from];
        return fullness(boxes[box]);
    }

    public int map(int box, int from, int rule, int by) throws IndexOutOfBoundsException, IllegalArgumentException {
        needBox(box);
        needBox(from);
        needKind(rule, RULES);
        needNumber(by);
        asked += fullness(boxes[from]);
        boxes[box] = mapped(boxes[from], rule, by);
        return fullness(boxes[box]);
    }

    public int turn(int box, int from, int turn, int by) throws IndexOutOfBoundsException, IllegalArgumentException {
        needBox(box);
        needBox(from);
        needKind(turn, TURNS);
        needNumber(by);
        asked += fullness(boxes[from]);
        boxes[box] = turned(boxes[from], turn, by);
        return fullness(boxes[box]);
    }

    public int filter(int box, int from, int test, int by) throws IndexOutOfBoundsException, IllegalArgumentException {
        needBox(box);
        needBox(from);
        needKind(test, TESTS);
        needNumber(by);
        asked += fullness(boxes[from]);
        boxes[box] = filtered(boxes[from], test, by);
        return fullness(boxes[box]);
    }

    public int or(int box, int first, int second) throws IndexOutOfBoundsException {
        needBox(box);
        needBox(first);
        needBox(second);
        if (boxes[first] == NOTHING) {
            asked++;
        }
        boxes[box] = firstFull(boxes[first], boxes[second]);
        return fullness(boxes[box]);
    }

    public int wrap(int box, int from) throws IndexOutOfBoundsException {
        needBox(box);
        needBox(from);
        boxes[box] = rewrapped(boxes[from]);
        return fullness(boxes[box]);
    }

    public int both(int box, int from, int rule, int turn, int by) throws IndexOutOfBoundsException, IllegalArgumentException {
        needBox(box);
        needBox(from);
        needKind(rule, RULES);
        needKind(turn, TURNS_OF_NUMBERS);
        needNumber(by);
        int made = mapped(boxes[from], rule, by);
        asked += fullness(boxes[from]) + fullness(made);
        boxes[box] = turned(made, turn, by);
        return fullness(boxes[box]);
    }

    // ---- takers, givers

    public int take(int box) throws IndexOutOfBoundsException {
        needBox(box);
        giveToTaker(boxes[box]);
        return sum;
    }

    public int takeOrLeave(int box) throws IndexOutOfBoundsException {
        needBox(box);
        giveToTaker(boxes[box]);
        if (boxes[box] == NOTHING) {
            asked++;
            left++;
        }
        return sum;
    }

    public int get(int box) throws IndexOutOfBoundsException {
        needBox(box);
        return numberOrRefused(boxes[box]);
    }

    public int orElse(int box, int number) throws IndexOutOfBoundsException, IllegalArgumentException {
        needBox(box);
        needNumber(number);
        return firstFull(boxes[box], number);
    }

    public int orElseGet(int box, int number) throws IndexOutOfBoundsException, IllegalArgumentException {
        needBox(box);
        needNumber(number);
        if (boxes[box] != NOTHING) {
            return boxes[box];
        }
        int given = asked + number;
        asked++;
        return given;
    }

    public int orElseThrow(int box) throws IndexOutOfBoundsException, IllegalStateException {
        needBox(box);
        if (boxes[box] == NOTHING) {
            throw new IllegalStateException("the box is empty");
        }
        return boxes[box];
    }

    public boolean isFull(int box) throws IndexOutOfBoundsException {
        needBox(box);
        return boxes[box] != NOTHING;
    }

    public boolean isEmpty(int box) throws IndexOutOfBoundsException {
        needBox(box);
        return boxes[box] == NOTHING;
    }

    public boolean isLike(int box, int other) throws IndexOutOfBoundsException {
        needBox(box);
        needBox(other);
        return alike(boxes[box], boxes[other]);
    }

    public int code(int box) throws IndexOutOfBoundsException {
        needBox(box);
        return numberOrZero(boxes[box]);
    }

    // ---- plain boxes

    public int fillPlain(int plain, int number) throws IndexOutOfBoundsException, IllegalArgumentException {
        needPlain(plain);
        needNumber(number);
        int before = fullness(plains[plain]);
        plains[plain] = number;
        return before;
    }

    public int emptyPlain(int plain) throws IndexOutOfBoundsException {
        needPlain(plain);
        int before = fullness(plains[plain]);
        plains[plain] = NOTHING;
        return before;
    }

    public int getPlain(int plain) throws IndexOutOfBoundsException {
        needPlain(plain);
        return numberOrRefused(plains[plain]);
    }

    public int orElsePlain(int plain, int number) throws IndexOutOfBoundsException, IllegalArgumentException {
        needPlain(plain);
        needNumber(number);
        return firstFull(plains[plain], number);
    }

    public boolean isFullPlain(int plain) throws IndexOutOfBoundsException {
        needPlain(plain);
        return plains[plain] != NOTHING;
    }

    public int takePlain(int plain) throws IndexOutOfBoundsException {
        needPlain(plain);
        giveToTaker(plains[plain]);
        return sum;
    }

    public boolean arePlainLike() {
        return alike(plains[0], plains[1]);
    }

    public int toPlain(int plain, int box) throws IndexOutOfBoundsException {
        needPlain(plain);
        needBox(box);
        plains[plain] = boxes[box];
        return fullness(plains[plain]);
    }

    public int fromPlain(int box, int plain) throws IndexOutOfBoundsException {
        needBox(box);
        needPlain(plain);
        boxes[box] = plains[plain];
        return fullness(boxes[box]);
    }

    // ---- numbers that may be missing

    public boolean areLike(int box, int other) throws IndexOutOfBoundsException {
        needBox(box);
        needBox(other);
        return alike(boxes[box], boxes[other]);
    }

    public int compare(int box, int other, int order) throws IndexOutOfBoundsException, IllegalArgumentException {
        needBox(box);
        needBox(other);
        needKind(order, ORDERS);
        int mine = standing(boxes[box], order);
        int others = standing(boxes[other], order);
        if (mine == others) {
            return 0;
        }
        return mine < others ? -1 : 1;
    }

    public int codes(int a, int b, int c) throws IndexOutOfBoundsException {
        needBox(a);
        needBox(b);
        needBox(c);
        int all = CODE_START;
        all = all * STEP + numberOrZero(boxes[a]);
        all = all * STEP + numberOrZero(boxes[b]);
        all = all * STEP + numberOrZero(boxes[c]);
        return all;
    }

    public int codeOf(int box) throws IndexOutOfBoundsException {
        needBox(box);
        return numberOrZero(boxes[box]);
    }

    public int must(int box) throws IndexOutOfBoundsException {
        needBox(box);
        return numberOrRefused(boxes[box]);
    }

    public int mustElse(int box, int number) throws IndexOutOfBoundsException, IllegalArgumentException {
        needBox(box);
        needNumber(number);
        return firstFull(boxes[box], number);
    }

    public boolean isNothing(int box) throws IndexOutOfBoundsException {
        needBox(box);
        return boxes[box] == NOTHING;
    }

    public boolean isSomething(int box) throws IndexOutOfBoundsException {
        needBox(box);
        return boxes[box] != NOTHING;
    }

    public String told(int box) throws IndexOutOfBoundsException {
        needBox(box);
        tell(boxes[box]);
        return text.toString();
    }

    public int place(int place, int length) throws IllegalArgumentException, IndexOutOfBoundsException {
        if (length < 0 || length > LONGEST) {
            throw new IllegalArgumentException("the length is not 0 to 999");
        }
        if (place < 0 || place >= length) {
            throw new IndexOutOfBoundsException("the place is not 0 to length - 1");
        }
        return place;
    }

    // ---- the hall

    public int knock() {
        knocks++;
        return knocks;
    }

    public int house(int what) throws IllegalArgumentException {
        needKind(what, COUNTS);
        switch (what) {
            case 0:
                return howManyFull(boxes);
            case 1:
                return sumOfNumbers(boxes);
            case 2:
                return asked;
            case 3:
                return sum;
            case 4:
                return got;
            case 5:
                return left;
            case 6:
                return refused;
            case 7:
                return knocks;
            default:
                return howManyFull(plains);
        }
    }

    public boolean isSound() {
        for (int box = 0; box < BOXES; box++) {
            int content = boxes[box];
            boolean isSound = areTurnsSound(content)
                && areChainsSound(content)
                && areRulesSound(content)
                && areTestsSound(content)
                && isOrSound(content)
                && alike(rewrapped(content), content)
                && arePairsSound(box);
            if (!isSound) {
                return false;
            }
        }
        return true;
    }

    public long digest() {
        long d = DIGEST_START;
        for (int what = 0; what < COUNTS; what++) {
            d = mixed(d, house(what));
        }
        for (int box = 0; box < BOXES; box++) {
            d = mixedWithBox(d, box);
        }
        d = mixed(d, codes(0, 1, 2));
        d = mixed(d, codes(3, 4, 5));
        for (int plain = 0; plain < PLAINS; plain++) {
            d = mixed(d, fullness(plains[plain]));
            d = mixed(d, numberOrZero(plains[plain]));
        }
        return mixed(d, isSound() ? 1 : 0);
    }

    // ---- what each call needs to be told

    private static void needBox(int box) throws IndexOutOfBoundsException {
        if (box < 0 || box >= BOXES) {
            throw new IndexOutOfBoundsException("there is no such box");
        }
    }

    private static void needPlain(int plain) throws IndexOutOfBoundsException {
        if (plain < 0 || plain >= PLAINS) {
            throw new IndexOutOfBoundsException("there is no such plain box");
        }
    }

    private static void needNumber(int number) throws IllegalArgumentException {
        if (!isNumber(number)) {
            throw new IllegalArgumentException("the number is not -999 to 999");
        }
    }

    private static void needKind(int kind, int kinds) throws IllegalArgumentException {
        if (kind < 0 || kind >= kinds) {
            throw new IllegalArgumentException("there is no such kind");
        }
    }

    // ---- what is in a box: a number, or NOTHING

    private static boolean isNumber(int value) {
        return value >= LEAST && value <= GREATEST;
    }

    private static int fullness(int content) {
        return content == NOTHING ? 0 : 1;
    }

    private static int numberOrZero(int content) {
        return content == NOTHING ? 0 : content;
    }

    private static int numberOrNothing(int value) {
        return isNumber(value) ? value : NOTHING;
    }

    private static int naturalOrNothing(int value) {
        return value >= 0 && value <= GREATEST ? value : NOTHING;
    }

    private static boolean alike(int content, int other) {
        return content == other;
    }

    private static int firstFull(int first, int second) {
        return first == NOTHING ? second : first;
    }

    // A box around another one is full whatever that holds, so unwrapping it can only give that one back.
    private static int rewrapped(int content) {
        return content;
    }

    // What stands lower by the order has the lower standing; those alike by it have the same.
    private static int standing(int content, int order) {
        if (order == 2) {
            return content == NOTHING ? -1 : Math.abs(content);
        }
        int upright = content == NOTHING ? LEAST - 1 : content;
        return order == 1 ? -upright : upright;
    }

    private static int howManyFull(int[] row) {
        int full = 0;
        for (int content : row) {
            full += fullness(content);
        }
        return full;
    }

    private static int sumOfNumbers(int[] row) {
        int all = 0;
        for (int content : row) {
            all += numberOrZero(content);
        }
        return all;
    }

    // ---- rules, turns, tests: these count nothing as asked, so that isSound() may use them

    private static int ruleMakes(int rule, int n, int by) {
        switch (rule) {
            case 0:
                return numberOrNothing(n + by);
            case 1:
                return numberOrNothing(n * by);
            case 2:
                return numberOrNothing(by - n);
            case 3:
                return n >= by ? n : NOTHING;
            case 4:
                return n;
            default:
                return NOTHING;
        }
    }

    private int turnMakes(int turn, int n, int by) {
        switch (turn) {
            case 0:
                return naturalOrNothing(n + by);
            case 1:
                return n % 2 == 0 ? n / 2 : NOTHING;
            case 2:
                return naturalOrNothing(n - by);
            case 3:
                return NOTHING;
            case 4:
                return n;
            default:
                return boxes[Math.floorMod(n, BOXES)];
        }
    }

    private static boolean testLets(int test, int n, int by) {
        switch (test) {
            case 0:
                return n > by;
            case 1:
                return n < by;
            case 2:
                return (n - by) % 2 == 0;
            case 3:
                return true;
            default:
                return false;
        }
    }

    private static int mapped(int content, int rule, int by) {
        return content == NOTHING ? NOTHING : ruleMakes(rule, content, by);
    }

    private int turned(int content, int turn, int by) {
        return content == NOTHING ? NOTHING : turnMakes(turn, content, by);
    }

    private static int filtered(int content, int test, int by) {
        return content != NOTHING && testLets(test, content, by) ? content : NOTHING;
    }

    // ---- takers, givers, texts

    private void giveToTaker(int content) {
        if (content != NOTHING) {
            asked++;
            got++;
            sum += content;
        }
    }

    private int numberOrRefused(int content) {
        if (content == NOTHING) {
            refused++;
            return REFUSED;
        }
        return content;
    }

    private void tell(int content) {
        text.setLength(0);
        if (content == NOTHING) {
            text.append("none");
        } else {
            text.append(content);
        }
    }

    // ---- what isSound() looks at

    private boolean areTurnsSound(int content) {
        int number = numberOrZero(content);
        for (int turn = 0; turn < TURNS_OF_NUMBERS; turn++) {
            if (!alike(turned(number, turn, SOUND_BY), turnMakes(turn, number, SOUND_BY))) {
                return false;
            }
        }
        return alike(turned(content, TURN_FULL, SOUND_BY), content);
    }

    private boolean areChainsSound(int content) {
        for (int turn = 0; turn < TURNS_OF_NUMBERS; turn++) {
            int once = turned(content, turn, SOUND_BY);
            for (int next = 0; next < TURNS_OF_NUMBERS; next++) {
                if (!alike(turned(once, next, SOUND_BY), turnedByBoth(content, turn, next))) {
                    return false;
                }
            }
        }
        return true;
    }

    private int turnedByBoth(int content, int turn, int next) {
        if (content == NOTHING) {
            return NOTHING;
        }
        return turned(turnMakes(turn, content, SOUND_BY), next, SOUND_BY);
    }

    private static boolean areRulesSound(int content) {
        for (int rule = 0; rule < RULES; rule++) {
            if (!alike(mapped(content, rule, SOUND_BY), turnedByRule(content, rule))) {
                return false;
            }
        }
        return true;
    }

    private static int turnedByRule(int content, int rule) {
        if (content == NOTHING) {
            return NOTHING;
        }
        return numberOrNothing(ruleMakes(rule, content, SOUND_BY));
    }

    private static boolean areTestsSound(int content) {
        for (int test = 0; test < TESTS; test++) {
            for (int next = 0; next < TESTS; next++) {
                int there = filtered(filtered(content, test, SOUND_BY), next, SOUND_BY);
                int back = filtered(filtered(content, next, SOUND_BY), test, SOUND_BY);
                if (!alike(there, back)) {
                    return false;
                }
            }
        }
        return true;
    }

    private static boolean isOrSound(int content) {
        return alike(firstFull(content, NOTHING), content)
            && alike(firstFull(NOTHING, content), content);
    }

    private boolean arePairsSound(int box) {
        for (int other = 0; other < BOXES; other++) {
            boolean isAlike = areLike(box, other);
            if (isLike(box, other) != isAlike || (compare(box, other, 0) == 0) != isAlike) {
                return false;
            }
        }
        return true;
    }

    // ---- what digest() mixes

    private static long mixed(long d, long value) {
        return d * STEP + value;
    }

    private long mixedWithBox(long d, int box) {
        tell(boxes[box]);
        long mix = mixed(d, fullness(boxes[box]));
        mix = mixed(mix, numberOrZero(boxes[box]));
        mix = mixed(mix, text.length());
        for (int other = 0; other < BOXES; other++) {
            for (int order = 0; order < ORDERS; order++) {
                mix = mixed(mix, compare(box, other, order));
            }
        }
        return mix;
    }
}
