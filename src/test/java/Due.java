import java.util.List;

/** Counts answers that are not the ones that are due, and tells of each. */
final class Due {
    static final Class<?> ARGUMENT = IllegalArgumentException.class;
    static final Class<?> INDEX = ArrayIndexOutOfBoundsException.class;
    static final Class<?> UNSUPPORTED = UnsupportedOperationException.class;
    static final Class<?> ARITHMETIC = ArithmeticException.class;

    interface Call {
        long run();
    }

    interface Act {
        void run();
    }

    private int wrong = 0;
    private int asked = 0;

    void is(String what, long got, long want) {
        asked++;
        if (got != want) {
            tell(what + " answered " + got + ", due is " + want);
        }
    }

    /** Both lists are the same; only the first difference is told. */
    void alike(String what, List<String> got, List<String> want) {
        asked++;
        for (int i = 0; i < Math.max(got.size(), want.size()); i++) {
            String one = i < got.size() ? got.get(i) : "nothing";
            String other = i < want.size() ? want.get(i) : "nothing";
            if (!one.equals(other)) {
                tell(what + ": " + one + ", due is " + other);
                return;
            }
        }
    }

    /** The call throws just this class, by a throw statement and not by the machine. */
    void fails(String what, Class<?> kind, Call call) {
        asked++;
        try {
            tell(what + " answered " + call.run() + ", due is " + kind.getSimpleName());
        } catch (RuntimeException e) {
            if (e.getClass() != kind) {
                tell(what + " threw " + e + ", due is " + kind.getSimpleName());
            } else if (isOfTheMachine(e.getMessage())) {
                tell(what + ": the machine threw " + e);
            }
        }
    }

    void fails(String what, Class<?> kind, Act act) {
        fails(what, kind, () -> {
            act.run();
            return 0L;
        });
    }

    static boolean isOfTheMachine(String message) {
        return message != null && (message.startsWith("Index ") || message.equals("/ by zero"));
    }

    private void tell(String fault) {
        wrong++;
        System.out.println(fault);
    }

    void end() {
        if (asked == 0) {
            tell("nothing was asked");
        }
        System.out.println(wrong == 0 ? asked + " answers are as due" : wrong + " of " + asked + " answers are not as due");
        if (wrong != 0) {
            System.exit(1);
        }
    }
}
