import java.util.function.Supplier;

/** Counts the calls whose answer is not the one that is due, and tells them. */
final class Due {
    static final Class<? extends RuntimeException> BOUNDS = IndexOutOfBoundsException.class;
    static final Class<? extends RuntimeException> ARGUMENT = IllegalArgumentException.class;
    static final Class<? extends RuntimeException> STATE = IllegalStateException.class;
    static final Class<? extends RuntimeException> UNSUPPORTED = UnsupportedOperationException.class;
    static final Class<? extends RuntimeException> ARITHMETIC = ArithmeticException.class;
    static final Class<? extends RuntimeException> NO_ELEMENT = java.util.NoSuchElementException.class;

    private int wrong = 0;
    private String promise = "";

    void promise(int number, String name) {
        promise = "promise " + number + ", " + name;
    }

    void is(Object want, Object got) {
        if (!want.equals(got)) {
            tell("answered " + got + ", due is " + want);
        }
    }

    void fails(Class<? extends RuntimeException> want, Supplier<Object> call) {
        String got;
        try {
            got = String.valueOf(call.get());
        } catch (RuntimeException e) {
            got = e.getClass().getName();
        }
        if (!got.equals(want.getName())) {
            tell("answered " + got + ", due is " + want.getName());
        }
    }

    private void tell(String text) {
        wrong++;
        StackTraceElement[] trace = new Throwable().getStackTrace();
        System.out.println(promise + ": line " + trace[2].getLineNumber() + ": " + text);
    }

    void end() {
        if (wrong > 0) {
            System.out.println(wrong + " answers are not as due");
            System.exit(1);
        }
    }
}
