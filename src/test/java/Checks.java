import java.util.function.Supplier;

/** Counts the checks of one test that fail, prints each, and ends the test. */
final class Checks {
    private int wrong;

    void due(String call, Object got, Object want) {
        if (!got.equals(want)) {
            wrong++;
            System.out.println(call + " answered " + got + ", due is " + want);
        }
    }

    /** The call has to throw just this exception and to change nothing. */
    void dueThrow(String call, JarRiddle riddle, Supplier<Object> asked, Class<?> want) {
        long before = riddle.digest();
        String got;
        try {
            got = String.valueOf(asked.get());
        } catch (RuntimeException e) {
            got = e.getClass().getName();
        }
        due(call, got, want.getName());
        due("digest() behind " + call, riddle.digest(), before);
    }

    void dueIndex(String call, JarRiddle riddle, Supplier<Object> asked) {
        dueThrow(call, riddle, asked, IndexOutOfBoundsException.class);
    }

    void dueArgument(String call, JarRiddle riddle, Supplier<Object> asked) {
        dueThrow(call, riddle, asked, IllegalArgumentException.class);
    }

    void dueState(String call, JarRiddle riddle, Supplier<Object> asked) {
        dueThrow(call, riddle, asked, IllegalStateException.class);
    }

    void end(String test) {
        System.out.println(test + (wrong == 0 ? ": all as due" : ": " + wrong + " wrong"));
        if (wrong != 0) {
            System.exit(1);
        }
    }
}
