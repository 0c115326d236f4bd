import java.lang.reflect.Field;

/** Counts and prints what is not as due, and reaches into a store where a test must see its files. */
final class Expect {
    private static int wrong = 0;
    private static String about = "";

    interface Call {
        long answer();
    }

    interface Act {
        void run();
    }

    private Expect() {
    }

    /** What is told before each fault from now on. */
    static void about(String text) {
        about = text;
    }

    static void same(String what, long got, long due) {
        if (got != due) {
            fault(what + " answered " + got + ", due is " + due);
        }
    }

    static void yes(String what, boolean got) {
        if (!got) {
            fault(what + " does not hold");
        }
    }

    static void thrown(String what, Class<? extends RuntimeException> due, Act act) {
        try {
            act.run();
            fault(what + " threw nothing, due is " + due.getSimpleName());
        } catch (RuntimeException e) {
            if (e.getClass() != due) {
                fault(what + " threw " + e + ", due is " + due.getSimpleName());
            }
        }
    }

    static void off(String what, Act act) {
        thrown(what, IllegalStateException.class, act);
    }

    static void badArgument(String what, Act act) {
        thrown(what, IllegalArgumentException.class, act);
    }

    static void noElement(String what, Act act) {
        thrown(what, java.util.NoSuchElementException.class, act);
    }

    static void noIndex(String what, Act act) {
        thrown(what, IndexOutOfBoundsException.class, act);
    }

    static void powerFails(String what, Act act) {
        thrown(what, ArithmeticException.class, act);
    }

    static void fault(String text) {
        wrong++;
        if (wrong <= 50) {
            System.out.println(about + text);
        }
    }

    static int wrong() {
        return wrong;
    }

    static void end(String name) {
        System.out.println(name + ": " + (wrong == 0 ? "as due" : wrong + " wrong"));
        if (wrong != 0) {
            System.exit(1);
        }
    }

    /** A private field's value, by its names from the store on. */
    static Object inside(Object from, String... names) {
        Object at = from;
        try {
            for (String name : names) {
                Field field = at.getClass().getDeclaredField(name);
                field.setAccessible(true);
                at = field.get(at);
            }
        } catch (ReflectiveOperationException e) {
            throw new AssertionError(e);
        }
        return at;
    }
}
