import java.lang.reflect.InvocationTargetException;
import java.lang.reflect.Method;

/**
 * Every method that may throw, with each argument just within its range, just beyond it and far beyond it, in all
 * combinations: which exception is thrown (the one named first), and that nothing changes then.
 */
public final class ThrownTest {
    // A letter for each parameter: B a BOX, P a PLAIN box, N a NUMBER, Z a boolean; R, T, U, F, O, W a kind.
    private static final String[] METHODS = {
        "fill:BN", "empty:B", "fillMaybe:BNZ", "copy:BB", "map:BBRN", "turn:BBTN", "filter:BBFN", "or:BBB", "wrap:BB",
        "both:BBRUN", "take:B", "takeOrLeave:B", "get:B", "orElse:BN", "orElseGet:BN", "orElseThrow:B", "isFull:B",
        "isEmpty:B", "isLike:BB", "code:B", "fillPlain:PN", "emptyPlain:P", "getPlain:P", "orElsePlain:PN",
        "isFullPlain:P", "takePlain:P", "toPlain:PB", "fromPlain:BP", "areLike:BB", "compare:BBO", "codes:BBB",
        "codeOf:B", "must:B", "mustElse:BN", "isNothing:B", "isSomething:B", "told:B", "house:W",
    };

    private static final Check check = new Check();

    public static void main(String[] args) throws Exception {
        for (String line : METHODS) {
            int colon = line.indexOf(':');
            String kinds = line.substring(colon + 1);
            lookAtAll(methodNamed(line.substring(0, colon)), kinds, new Object[kinds.length()], 0);
        }
        check.end();
    }

    private static Method methodNamed(String name) {
        for (Method method : Maybehall.class.getMethods()) {
            if (method.getName().equals(name) && method.getDeclaringClass() == Maybehall.class) {
                return method;
            }
        }
        throw new IllegalStateException("no method " + name);
    }

    private static void lookAtAll(Method method, String kinds, Object[] told, int filled) throws Exception {
        if (filled == kinds.length()) {
            lookAt(method, kinds, told);
            return;
        }
        char kind = kinds.charAt(filled);
        if (kind == 'Z') {
            for (boolean isThere : new boolean[] {false, true}) {
                told[filled] = isThere;
                lookAtAll(method, kinds, told, filled + 1);
            }
            return;
        }
        int low = low(kind);
        int high = high(kind);
        for (int value : new int[] {low, high, low - 1, high + 1, Integer.MIN_VALUE, Integer.MAX_VALUE}) {
            told[filled] = value;
            lookAtAll(method, kinds, told, filled + 1);
        }
    }

    private static void lookAt(Method method, String kinds, Object[] told) throws Exception {
        Maybehall hall = someHall();
        StringBuilder call = new StringBuilder(method.getName());
        for (Object value : told) {
            call.append(' ').append(value);
        }
        long before = hall.digest();
        String due = due(method.getName(), kinds, told);
        check.due(call.toString(), due, thrownBy(method, hall, told));
        if (!due.equals("nothing")) {
            check.due("digest() after " + call, before, hall.digest());
        }
    }

    /** Box 0 is full, box 5 is empty, so both edges of a BOX meet either state; the plain boxes likewise. */
    private static Maybehall someHall() {
        Maybehall hall = new Maybehall();
        hall.fill(0, 3);
        hall.fill(2, -8);
        hall.fillPlain(0, 4);
        hall.take(0);
        hall.takeOrLeave(5);
        hall.get(5);
        hall.knock();
        return hall;
    }

    private static String due(String name, String kinds, Object[] told) {
        boolean isIndexWrong = false;
        boolean isOtherWrong = false;
        for (int i = 0; i < told.length; i++) {
            char kind = kinds.charAt(i);
            boolean isWrong = kind != 'Z' && ((int) told[i] < low(kind) || (int) told[i] > high(kind));
            if (kind == 'B' || kind == 'P') {
                isIndexWrong |= isWrong;
            } else {
                isOtherWrong |= isWrong;
            }
        }
        if (isIndexWrong) {
            return IndexOutOfBoundsException.class.getName();
        }
        if (isOtherWrong) {
            return IllegalArgumentException.class.getName();
        }
        boolean isEmptyAsked = name.equals("orElseThrow") && (int) told[0] == 5;
        return isEmptyAsked ? IllegalStateException.class.getName() : "nothing";
    }

    private static String thrownBy(Method method, Maybehall hall, Object[] told) throws Exception {
        try {
            method.invoke(hall, told);
            return "nothing";
        } catch (InvocationTargetException e) {
            return e.getCause().getClass().getName();
        }
    }

    private static int low(char kind) {
        return kind == 'N' ? -999 : 0;
    }

    private static int high(char kind) {
        switch (kind) {
            case 'B': case 'R': case 'T': return 5;
            case 'P': return 1;
            case 'N': return 999;
            case 'U': case 'F': return 4;
            case 'O': return 2;
            case 'W': return 8;
            default: throw new IllegalStateException("no kind " + kind);
        }
    }
}
