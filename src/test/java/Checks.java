import java.util.function.LongSupplier;

/** Counts what a test finds wrong, and ends the test with exit code 1 if there was something. */
final class Checks {
    private int made;
    private int wrong;

    void same(String call, long got, long due) {
        made++;
        if (got != due) {
            tell(call + " answered " + got + ", due is " + due);
        }
    }

    void sameDouble(String call, double got, double due) {
        made++;
        if (got != due) {
            tell(call + " answered " + got + ", due is " + due);
        }
    }

    void holds(String what, boolean held) {
        made++;
        if (!held) {
            tell(what + " does not hold");
        }
    }

    /** Checks that a call throws exactly this exception and changes nothing that digest() tells. */
    void fails(String call, LaneCrowds x, Class<? extends RuntimeException> due, LongSupplier made) {
        long before = x.digest();
        Class<?> got = null;
        try {
            made.getAsLong();
        } catch (RuntimeException thrown) {
            got = thrown.getClass();
        }
        holds(call + " throwing " + due.getSimpleName() + " (it threw " + got + ")", got == due);
        same("digest() behind " + call, x.digest(), before);
    }

    void outside(String call, LaneCrowds x, LongSupplier made) {
        fails(call, x, IndexOutOfBoundsException.class, made);
    }

    void badArgument(String call, LaneCrowds x, LongSupplier made) {
        fails(call, x, IllegalArgumentException.class, made);
    }

    void badState(String call, LaneCrowds x, LongSupplier made) {
        fails(call, x, IllegalStateException.class, made);
    }

    static long number(boolean answer) {
        return answer ? 1L : 0L;
    }

    private void tell(String text) {
        wrong++;
        if (wrong <= 40) {
            System.out.println(text);
        }
    }

    void end() {
        System.out.println(made + " checks, " + wrong + " wrong");
        if (wrong > 0 || made == 0) {
            System.exit(1);
        }
    }
}
