/** Promises 25 to 29: alarms, why and count. */
public final class AlarmsTest {
    private static final int UNKNOWN = -2, OUTSIDE = -3, NOTHING = -11, ALARM = -16;
    private static final int MAX = Integer.MAX_VALUE, MIN = Integer.MIN_VALUE;
    private static final int[] NO_ALARMS = {-1, 4, MAX, MIN};
    private static final Due due = new Due("AlarmsTest");

    public static void main(String[] args) {
        alarm();
        calm();
        let();
        why();
        count();
        countKeepsWhy();
        due.end();
    }

    // Promise 25
    private static void alarm() {
        ToolRoom x = new ToolRoom();
        due.fine(x, "alarm(0, 5)", x.alarm(0, 5), 1);
        due.fine(x, "alarm(3, 6)", x.alarm(3, 6), 1);
        due.fine(x, "alarm(0, 7)", x.alarm(0, 7), 0);
        x.let(0);
        due.is("why(): the new number", x.why(), 7);
        x.let(3);
        due.is("why(): its own number", x.why(), 6);
        due.refused(x, "let(1)", x.let(1), NOTHING);
        for (int k : NO_ALARMS) {
            due.refused(x, "alarm(no alarm, 1)", x.alarm(k, 1), UNKNOWN);
        }
    }

    // Promise 26
    private static void calm() {
        ToolRoom x = new ToolRoom();
        due.fine(x, "calm(3)", x.calm(3), 0);
        x.alarm(3, 1);
        x.alarm(2, 1);
        due.fine(x, "calm(3)", x.calm(3), 1);
        due.fine(x, "calm(3)", x.calm(3), 0);
        due.refused(x, "let(3)", x.let(3), NOTHING);
        due.is("let(2)", x.let(2), ALARM);
        due.fine(x, "alarm(3, 1)", x.alarm(3, 1), 1);
        for (int k : NO_ALARMS) {
            due.refused(x, "calm(no alarm)", x.calm(k), UNKNOWN);
        }
    }

    // Promise 27
    private static void let() {
        ToolRoom x = new ToolRoom();
        for (int number : new int[] {0, 1, -11, MAX, MIN}) {
            x.alarm(1, number);
            for (int time = 0; time < 2; time++) {
                due.is("let(1)", x.let(1), ALARM);
                due.is("why()", x.why(), number);
            }
        }
        due.is("count(6)", x.count(6), 10);
        due.is("count(0)", x.count(0), 6);
        due.refused(x, "let(0)", x.let(0), NOTHING);
        due.is("count(0)", x.count(0), 1);
        for (int k : NO_ALARMS) {
            due.refused(x, "let(no alarm)", x.let(k), UNKNOWN);
        }
    }

    // Promise 28
    private static void why() {
        ToolRoom x = new ToolRoom();
        due.is("why() of a new object", x.why(), 0);
        x.kind(10);
        due.is("why()", x.why(), UNKNOWN);
        due.is("why() again: it looks past itself", x.why(), UNKNOWN);
        x.kind(0);
        due.is("why(): NONE is no refusal", x.why(), 0);
        x.use(0, 1);
        due.is("why()", x.why(), NOTHING);
        x.unhang(0);
        due.is("why()", x.why(), 0);
        x.tool(0, 9);
        due.is("why()", x.why(), OUTSIDE);
        x.tray(0, -1);
        due.is("why()", x.why(), -13);
        x.tray(0, 0);
        due.is("why()", x.why(), 0);
        x.alarm(0, 3);
        x.let(0);
        x.let(1);
        due.is("why()", x.why(), NOTHING);
    }

    // Promise 29
    private static void count() {
        ToolRoom x = new ToolRoom();
        x.tool(0, 0);
        x.rack(0, 1, 1);
        x.rack(1, 0, 1);
        x.lay(1, 0, 0);
        x.alarm(0, 9);
        for (int failure = 1; failure <= 6; failure++) {
            for (int time = 0; time < failure; time++) {
                due.is("failure " + failure, meet(x, failure), -10 - failure);
                due.is("count(0)", x.count(0), failure);
            }
        }
        for (int failure = 1; failure <= 6; failure++) {
            due.is("count(" + failure + ")", x.count(failure), failure);
        }
        due.is("count(7)", x.count(7), 0);
        x.use(0, 1);
        x.kind(10);
        x.tool(0, 4);
        due.is("count(7)", x.count(7), 1);
        due.is("count(0): UNKNOWN and OUTSIDE are no failures", x.count(0), 6);
        for (int what : new int[] {-1, 8, MAX, MIN}) {
            due.is("count(" + what + ")", x.count(what), OUTSIDE);
        }
    }

    private static int meet(ToolRoom x, int failure) {
        switch (failure) {
            case 1: return x.put(0, 0, 0);
            case 2: return x.lay(0, 1, 0);
            case 3: return x.tray(0, -1);
            case 4: return x.fetch(1, 0, 1, 0);
            case 5: return x.lay(0, 0, 0);
            default: return x.let(0);
        }
    }

    private static void countKeepsWhy() {
        ToolRoom x = new ToolRoom();
        due.is("count(8)", x.count(8), OUTSIDE);
        due.is("why()", x.why(), 0);
        x.kind(10);
        x.count(0);
        due.is("why()", x.why(), UNKNOWN);
        x.count(-1);
        due.is("why()", x.why(), UNKNOWN);
        x.alarm(0, 50);
        x.let(0);
        x.count(6);
        due.is("why()", x.why(), 50);
    }
}
