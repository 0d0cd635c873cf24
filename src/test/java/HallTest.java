/** Promises 41 to 44: knock, house, isSound and digest. */
public final class HallTest {
    private static final Check check = new Check();

    public static void main(String[] args) {
        knock();
        house();
        isSound();
        digest();
        check.end();
    }

    private static void knock() {
        Maybehall x = new Maybehall();
        check.due("knock()", 1, x.knock());
        check.due("knock() again", 2, x.knock());
        check.due("house(7)", 2, x.house(7));
        check.due("knocking asks nothing", 0, x.house(2));
    }

    private static void house() {
        Maybehall x = new Maybehall();
        x.fill(0, -999);
        x.fill(3, 5);
        x.fill(5, 0);
        x.fillPlain(1, 100);
        x.take(3);
        x.take(3);
        x.take(0);
        x.takeOrLeave(1);
        x.takeOrLeave(1);
        x.or(1, 1, 2);
        for (int i = 0; i < 4; i++) {
            x.get(4);
        }
        for (int i = 0; i < 7; i++) {
            x.knock();
        }
        int[] due = {3, -994, 6, -989, 3, 2, 4, 7, 1};
        for (int what = 0; what < due.length; what++) {
            check.due("house(" + what + ")", due[what], x.house(what));
        }
        for (int box = 0; box < 6; box++) {
            x.fill(box, 999);
        }
        x.fillPlain(0, 1);
        check.due("house(0) of all full", 6, x.house(0));
        check.due("house(1) of all full", 5994, x.house(1));
        check.due("house(8) of both full", 2, x.house(8));
    }

    private static void isSound() {
        Maybehall x = new Maybehall();
        check.due("isSound() of a new one", true, x.isSound());
        x.fill(0, 0);
        for (int number = -999; number <= 999; number++) {
            x.fill(1, number);
            x.fill(2, -number);
            check.due("isSound() with " + number, true, x.isSound());
        }
        check.due("isSound() asks and refuses nothing", 0, x.house(2) + x.house(6));
        check.due("get(1) stays", 999, x.get(1));
    }

    private static void digest() {
        Maybehall x = new Maybehall();
        check.due("digest() of a new one", digestOfNew(), x.digest());
        check.due("digest() again", digestOfNew(), x.digest());
        differs("fill", y -> y.fill(5, 0));
        differs("fillPlain", y -> y.fillPlain(1, 0));
        differs("knock", y -> y.knock());
        differs("a refusal", y -> y.get(0));
        differs("an ask", y -> y.or(0, 1, 2));
        differs("one that was left", y -> y.takeOrLeave(0));
        digestOfMany();
    }

    private static void digestOfMany() {
        Maybehall x = new Maybehall();
        int[] numbers = {-999, 7, -7, 0, 85, 999};
        for (int box = 0; box < 6; box++) {
            x.fill(box, numbers[box]);
            check.due("digest() with boxes 0 to " + box + " full", digestFromFace(x), x.digest());
        }
        x.fillPlain(1, 3);
        x.take(1);
        x.empty(2);
        x.takeOrLeave(2);
        x.get(2);
        x.knock();
        check.due("digest() after all kinds of counts", digestFromFace(x), x.digest());
        check.due("digest() counts nothing", 2, x.house(2));
        check.due("digest() refuses nothing", 1, x.house(6));
    }

    /** The promise's sum, from answers of the other methods; getPlain() is asked of full ones alone, as it is counted. */
    private static long digestFromFace(Maybehall x) {
        long d = 7715;
        for (int what = 0; what <= 8; what++) {
            d = d * 31 + x.house(what);
        }
        for (int box = 0; box < 6; box++) {
            d = d * 31 + (x.isFull(box) ? 1 : 0);
            d = d * 31 + x.code(box);
            d = d * 31 + x.told(box).length();
            for (int other = 0; other < 6; other++) {
                for (int order = 0; order < 3; order++) {
                    d = d * 31 + x.compare(box, other, order);
                }
            }
        }
        d = d * 31 + x.codes(0, 1, 2);
        d = d * 31 + x.codes(3, 4, 5);
        for (int plain = 0; plain < 2; plain++) {
            d = d * 31 + (x.isFullPlain(plain) ? 1 : 0);
            d = d * 31 + (x.isFullPlain(plain) ? x.getPlain(plain) : 0);
        }
        return d * 31 + (x.isSound() ? 1 : 0);
    }

    /** Nine counts, six boxes with 3 values and 18 comparisons each, two codes, two plain boxes, and the soundness. */
    private static long digestOfNew() {
        long d = 7715;
        for (int i = 0; i < 9; i++) {
            d = d * 31;
        }
        for (int box = 0; box < 6; box++) {
            d = d * 31;
            d = d * 31;
            d = d * 31 + "none".length();
            for (int i = 0; i < 18; i++) {
                d = d * 31;
            }
        }
        d = d * 31 + 29791;
        d = d * 31 + 29791;
        for (int i = 0; i < 4; i++) {
            d = d * 31;
        }
        return d * 31 + 1;
    }

    private interface Change {
        void to(Maybehall hall);
    }

    private static void differs(String what, Change change) {
        Maybehall x = new Maybehall();
        change.to(x);
        check.due("digest() differs by " + what, false, x.digest() == digestOfNew());
    }
}
