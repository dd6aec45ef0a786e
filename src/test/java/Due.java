/** Counts answers that are not the ones that are due, and tells of each. */
final class Due {
    interface Call {
        long run();
    }

    private int wrong = 0;
    private int asked = 0;

    void is(String what, long got, long want) {
        asked++;
        if (got != want) {
            tell(what + " answered " + got + ", due is " + want);
        }
    }

    /** The call throws just this class, by a throw statement and not by the machine. */
    void fails(String what, Class<?> kind, Call call) {
        asked++;
        try {
            tell(what + " answered " + call.run() + ", due is " + kind.getSimpleName());
        } catch (RuntimeException e) {
            if (e.getClass() != kind) {
                tell(what + " threw " + e + ", due is " + kind.getSimpleName());
            } else if (isOfTheMachine(e.getMessage())) {
                tell(what + ": the machine threw " + e);
            }
        }
    }

    static boolean isOfTheMachine(String message) {
        return message != null && (message.startsWith("Index ") || message.equals("/ by zero"));
    }

    private void tell(String fault) {
        wrong++;
        System.out.println(fault);
    }

    void end() {
        if (asked == 0) {
            tell("nothing was asked");
        }
        System.out.println(wrong == 0 ? asked + " answers are as due" : wrong + " of " + asked + " answers are not as due");
        if (wrong != 0) {
            System.exit(1);
        }
    }
}
