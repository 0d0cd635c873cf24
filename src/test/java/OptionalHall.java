import java.util.Comparator;
import java.util.Objects;
import java.util.Optional;
import java.util.OptionalInt;
import java.util.function.Function;
import java.util.function.Predicate;

/** The document said once more, with the Java library's own Optional, OptionalInt and Objects. */
public final class OptionalHall {
    private Optional<Integer>[] boxes = made();
    private final OptionalInt[] plains = {OptionalInt.empty(), OptionalInt.empty()};
    private int asked;
    private int sum;
    private int got;
    private int left;
    private int refused;
    private int knocks;

    @SuppressWarnings("unchecked")
    private static Optional<Integer>[] made() {
        Optional<Integer>[] row = new Optional[6];
        java.util.Arrays.fill(row, Optional.empty());
        return row;
    }

    private int put(int box, Optional<Integer> content) {
        boxes[box] = content;
        return content.isPresent() ? 1 : 0;
    }

    private static void boxes(int... told) {
        for (int box : told) {
            Objects.checkIndex(box, 6);
        }
    }

    private static void ranged(int value, int low, int high) {
        if (value < low || value > high) {
            throw new IllegalArgumentException();
        }
    }

    private static void number(int value) {
        ranged(value, -999, 999);
    }

    private static Optional<Integer> within(int value, int low) {
        return Optional.of(value).filter(n -> n >= low && n <= 999);
    }

    private Function<Integer, Integer> rule(int rule, int b) {
        return n -> {
            asked++;
            return switch (rule) {
                case 0 -> within(n + b, -999).orElse(null);
                case 1 -> within(n * b, -999).orElse(null);
                case 2 -> within(b - n, -999).orElse(null);
                case 3 -> n < b ? null : n;
                case 4 -> n;
                default -> null;
            };
        };
    }

    private Function<Integer, Optional<Integer>> turning(int turn, int b) {
        return n -> {
            asked++;
            return switch (turn) {
                case 0 -> within(n + b, 0);
                case 1 -> n % 2 != 0 ? Optional.empty() : Optional.of(n / 2);
                case 2 -> within(n - b, 0);
                case 3 -> Optional.empty();
                case 4 -> Optional.of(n);
                default -> boxes[((n % 6) + 6) % 6];
            };
        };
    }

    private Predicate<Integer> test(int test, int b) {
        return n -> {
            asked++;
            return switch (test) {
                case 0 -> n > b;
                case 1 -> n < b;
                case 2 -> Math.abs(n) % 2 == Math.abs(b) % 2;
                case 3 -> true;
                default -> false;
            };
        };
    }

    private void taker(int n) {
        asked++;
        got++;
        sum += n;
    }

    private int refuse() {
        refused++;
        return -9999;
    }

    private Integer in(int box) {
        boxes(box);
        return boxes[box].orElse(null);
    }

    public int fill(int box, int number) {
        boxes(box);
        number(number);
        int was = boxes[box].isPresent() ? 1 : 0;
        put(box, Optional.of(number));
        return was;
    }

    public int empty(int box) {
        boxes(box);
        int was = boxes[box].isPresent() ? 1 : 0;
        put(box, Optional.empty());
        return was;
    }

    public int fillMaybe(int box, int number, boolean isThere) {
        boxes(box);
        number(number);
        return put(box, Optional.ofNullable(isThere ? number : null));
    }

    public int copy(int box, int from) {
        boxes(box, from);
        return put(box, boxes[from]);
    }

    public int map(int box, int from, int rule, int by) {
        boxes(box, from);
        ranged(rule, 0, 5);
        number(by);
        return put(box, boxes[from].map(rule(rule, by)));
    }

    public int turn(int box, int from, int turn, int by) {
        boxes(box, from);
        ranged(turn, 0, 5);
        number(by);
        return put(box, boxes[from].flatMap(turning(turn, by)));
    }

    public int filter(int box, int from, int test, int by) {
        boxes(box, from);
        ranged(test, 0, 4);
        number(by);
        return put(box, boxes[from].filter(test(test, by)));
    }

    public int or(int box, int first, int second) {
        boxes(box, first, second);
        return put(box, boxes[first].or(() -> {
            asked++;
            return boxes[second];
        }));
    }

    public int wrap(int box, int from) {
        boxes(box, from);
        return put(box, Optional.of(boxes[from]).flatMap(Function.identity()));
    }

    public int both(int box, int from, int rule, int turn, int by) {
        boxes(box, from);
        ranged(rule, 0, 5);
        ranged(turn, 0, 4);
        number(by);
        return put(box, boxes[from].flatMap(n -> Optional.ofNullable(rule(rule, by).apply(n)).flatMap(turning(turn, by))));
    }

    public int take(int box) {
        boxes(box);
        boxes[box].ifPresent(this::taker);
        return sum;
    }

    public int takeOrLeave(int box) {
        boxes(box);
        boxes[box].ifPresentOrElse(this::taker, () -> {
            asked++;
            left++;
        });
        return sum;
    }

    public int get(int box) {
        boxes(box);
        return boxes[box].isPresent() ? boxes[box].get() : refuse();
    }

    public int orElse(int box, int number) {
        boxes(box);
        number(number);
        return boxes[box].orElse(number);
    }

    public int orElseGet(int box, int number) {
        boxes(box);
        number(number);
        return boxes[box].orElseGet(() -> asked++ + number);
    }

    public int orElseThrow(int box) {
        boxes(box);
        return boxes[box].orElseThrow(IllegalStateException::new);
    }

    public boolean isFull(int box) {
        boxes(box);
        return boxes[box].isPresent();
    }

    public boolean isEmpty(int box) {
        boxes(box);
        return boxes[box].isEmpty();
    }

    public boolean isLike(int box, int other) {
        boxes(box, other);
        return boxes[box].equals(boxes[other]);
    }

    public int code(int box) {
        boxes(box);
        return boxes[box].hashCode();
    }

    public int fillPlain(int plain, int number) {
        Objects.checkIndex(plain, 2);
        number(number);
        int was = plains[plain].isPresent() ? 1 : 0;
        plains[plain] = OptionalInt.of(number);
        return was;
    }

    public int emptyPlain(int plain) {
        Objects.checkIndex(plain, 2);
        int was = plains[plain].isPresent() ? 1 : 0;
        plains[plain] = OptionalInt.empty();
        return was;
    }

    public int getPlain(int plain) {
        Objects.checkIndex(plain, 2);
        return plains[plain].isPresent() ? plains[plain].getAsInt() : refuse();
    }

    public int orElsePlain(int plain, int number) {
        Objects.checkIndex(plain, 2);
        number(number);
        return plains[plain].orElse(number);
    }

    public boolean isFullPlain(int plain) {
        Objects.checkIndex(plain, 2);
        return plains[plain].isPresent();
    }

    public int takePlain(int plain) {
        Objects.checkIndex(plain, 2);
        plains[plain].ifPresent(this::taker);
        return sum;
    }

    public boolean arePlainLike() {
        return plains[0].equals(plains[1]);
    }

    public int toPlain(int plain, int box) {
        Objects.checkIndex(plain, 2);
        boxes(box);
        plains[plain] = boxes[box].map(OptionalInt::of).orElseGet(OptionalInt::empty);
        return plains[plain].isPresent() ? 1 : 0;
    }

    public int fromPlain(int box, int plain) {
        boxes(box);
        Objects.checkIndex(plain, 2);
        return put(box, plains[plain].stream().boxed().findFirst());
    }

    public boolean areLike(int box, int other) {
        return Objects.equals(in(box), in(other));
    }

    public int compare(int box, int other, int order) {
        boxes(box, other);
        ranged(order, 0, 2);
        Comparator<Integer> upright = Comparator.nullsFirst(Comparator.<Integer>naturalOrder());
        Comparator<Integer> bySize = Comparator.nullsFirst(Comparator.<Integer, Integer>comparing(Math::abs));
        Comparator<Integer> asked = order == 0 ? upright : order == 1 ? upright.reversed() : bySize;
        return Integer.signum(Objects.compare(in(box), in(other), asked));
    }

    public int codes(int a, int b, int c) {
        return Objects.hash(in(a), in(b), in(c));
    }

    public int codeOf(int box) {
        return Objects.hashCode(in(box));
    }

    public int must(int box) {
        Integer number = in(box);
        return number == null ? refuse() : number;
    }

    public int mustElse(int box, int number) {
        boxes(box);
        number(number);
        return Objects.requireNonNullElse(in(box), number);
    }

    public boolean isNothing(int box) {
        return Objects.isNull(in(box));
    }

    public boolean isSomething(int box) {
        return Objects.nonNull(in(box));
    }

    public String told(int box) {
        return Objects.toString(in(box), "none");
    }

    public int place(int place, int length) {
        ranged(length, 0, 999);
        return Objects.checkIndex(place, length);
    }

    public int knock() {
        return ++knocks;
    }

    public int house(int what) {
        ranged(what, 0, 8);
        int full = 0;
        int all = 0;
        for (Optional<Integer> content : boxes) {
            full += content.isPresent() ? 1 : 0;
            all += content.orElse(0);
        }
        int fullPlains = (plains[0].isPresent() ? 1 : 0) + (plains[1].isPresent() ? 1 : 0);
        return new int[] {full, all, asked, sum, got, left, refused, knocks, fullPlains}[what];
    }

    /** The laws of promise 43 hold of the Java library, whatever is in the boxes. */
    public boolean isSound() {
        return true;
    }

    public long digest() {
        java.util.List<Long> mixed = new java.util.ArrayList<>();
        for (int what = 0; what <= 8; what++) {
            mixed.add((long) house(what));
        }
        for (int box = 0; box < 6; box++) {
            mixed.add(isFull(box) ? 1L : 0L);
            mixed.add((long) code(box));
            mixed.add((long) told(box).length());
            for (int other = 0; other < 6; other++) {
                for (int order = 0; order < 3; order++) {
                    mixed.add((long) compare(box, other, order));
                }
            }
        }
        mixed.add((long) codes(0, 1, 2));
        mixed.add((long) codes(3, 4, 5));
        for (OptionalInt plain : plains) {
            mixed.add(plain.isPresent() ? 1L : 0L);
            mixed.add((long) plain.orElse(0));
        }
        mixed.add(isSound() ? 1L : 0L);
        return mixed.stream().reduce(7715L, (d, v) -> d * 31 + v);
    }
}
