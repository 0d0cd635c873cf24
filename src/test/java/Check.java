import java.util.Objects;

/** Counts answers that are not due, prints each, and ends the test with exit code 1 if there was one. */
final class Check {
    interface Call {
        Object ask();
    }

    private int looked;
    private int wrong;

    void due(String call, Object due, Object got) {
        looked++;
        if (!Objects.equals(due, got)) {
            wrong++;
            System.out.println(call + " answered " + got + ", due is " + due);
        }
    }

    /** The exact class is due: none above it, none below it. */
    void thrown(String call, Class<? extends RuntimeException> due, Call asked) {
        due(call, due.getName(), answerOf(asked));
    }

    /** Looks, too, whether the call that throws left the hall as it was. */
    void thrownWithoutChange(String call, Class<? extends RuntimeException> due, Maybehall hall, Call asked) {
        long before = hall.digest();
        thrown(call, due, asked);
        due("digest() after " + call, before, hall.digest());
    }

    void end() {
        System.out.println(looked + " answers, " + wrong + " not as due");
        if (wrong != 0 || looked == 0) {
            System.exit(1);
        }
    }

    private static Object answerOf(Call asked) {
        try {
            return asked.ask();
        } catch (RuntimeException e) {
            return e.getClass().getName();
        }
    }
}
