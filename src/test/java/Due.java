/** Counts the answers that are not the due ones and tells them. */
final class Due {
    private final String test;
    private int checked = 0;
    private int wrong = 0;

    Due(String test) {
        this.test = test;
    }

    void is(String call, int got, int want) {
        checked++;
        if (got != want) {
            wrong++;
            System.out.println(test + ": " + call + " answered " + got + ", due is " + want);
        }
    }

    void holds(String what, boolean so) {
        checked++;
        if (!so) {
            wrong++;
            System.out.println(test + ": not so: " + what);
        }
    }

    /** A refusal that is its own answer, and that why() tells. */
    void refused(ToolRoom room, String call, int got, int code) {
        is(call, got, code);
        is(call + ", then why()", room.why(), code);
    }

    /** A refusal that is answered by 0, and that only why() tells. */
    void zero(ToolRoom room, String call, int got, int code) {
        is(call, got, 0);
        is(call + ", then why()", room.why(), code);
    }

    /** An answer that is no refusal. */
    void fine(ToolRoom room, String call, int got, int want) {
        is(call, got, want);
        is(call + ", then why()", room.why(), 0);
    }

    boolean isClean() {
        return wrong == 0;
    }

    void end() {
        System.out.println(test + ": " + checked + " checked, " + wrong + " wrong");
        if (wrong != 0) {
            System.exit(1);
        }
    }
}
