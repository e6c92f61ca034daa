/** Counts the answers that are not the ones that are due, and prints each. */
final class Due {
    private static int wrong = 0;

    private Due() {
    }

    static void same(String call, long got, long due) {
        if (got != due) {
            tell(call + " answered " + got + ", due is " + due);
        }
    }

    static void same(String call, boolean got, boolean due) {
        if (got != due) {
            tell(call + " answered " + got + ", due is " + due);
        }
    }

    static void sameMean(String call, double got, double due) {
        if (Double.doubleToLongBits(got) != Double.doubleToLongBits(due)) {
            tell(call + " answered " + got + ", due is " + due);
        }
    }

    /** The very class is asked for: what the machine throws is often of a class below it. */
    static void throwsIt(String call, Class<? extends RuntimeException> due, Runnable made) {
        sameClass(call, thrownBy(made), due);
    }

    /** A class told as null stands for a call that throws nothing. */
    static void sameClass(String call, Class<?> got, Class<?> due) {
        if (got != due) {
            tell(call + " threw " + name(got) + ", due is " + name(due));
        }
    }

    private static String name(Class<?> thrown) {
        return thrown == null ? "nothing" : thrown.getName();
    }

    static void index(String call, Runnable made) {
        throwsIt(call, IndexOutOfBoundsException.class, made);
    }

    static void argument(String call, Runnable made) {
        throwsIt(call, IllegalArgumentException.class, made);
    }

    static void state(String call, Runnable made) {
        throwsIt(call, IllegalStateException.class, made);
    }

    static long number(boolean answer) {
        return answer ? 1 : 0;
    }

    static Class<?> thrownBy(Runnable made) {
        try {
            made.run();
        } catch (RuntimeException thrown) {
            return thrown.getClass();
        }
        return null;
    }

    static void end(String test) {
        System.out.println(test + ": " + (wrong == 0 ? "all answers are as due" : wrong + " answers are not as due"));
        if (wrong != 0) {
            System.exit(1);
        }
    }

    static void tell(String text) {
        wrong++;
        System.out.println(text);
    }
}
