/** Promises 25 to 29: alarms, why and count. */
public final class AlarmsTest {
    private static final int UNKNOWN = -2, OUTSIDE = -3, NOTHING = -11, ALARM = -16;
    private static final int MAX = Integer.MAX_VALUE, MIN = Integer.MIN_VALUE;
    private static final int[] NO_ALARMS = {-1, 4, MAX, MIN};
    private static final Due due = new Due("AlarmsTest");

    public static void main(String[] args) {
        alarm();
        calm();
        let();
        why();
        whyBehindEveryCall();
        count();
        countKeepsWhy();
        due.end();
    }

    // Promise 25
    private static void alarm() {
        ToolRoom x = new ToolRoom();
        due.fine(x, "alarm(0, 5)", x.alarm(0, 5), 1);
        due.fine(x, "alarm(3, 6)", x.alarm(3, 6), 1);
        due.fine(x, "alarm(0, 7)", x.alarm(0, 7), 0);
        x.let(0);
        due.is("why(): the new number", x.why(), 7);
        x.let(3);
        due.is("why(): its own number", x.why(), 6);
        due.refused(x, "let(1)", x.let(1), NOTHING);
        for (int k : NO_ALARMS) {
            due.refused(x, "alarm(no alarm, 1)", x.alarm(k, 1), UNKNOWN);
        }
    }

    // Promise 26
    private static void calm() {
        ToolRoom x = new ToolRoom();
        due.fine(x, "calm(3)", x.calm(3), 0);
        x.alarm(3, 1);
        x.alarm(2, 1);
        due.fine(x, "calm(3)", x.calm(3), 1);
        due.fine(x, "calm(3)", x.calm(3), 0);
        due.refused(x, "let(3)", x.let(3), NOTHING);
        due.is("let(2)", x.let(2), ALARM);
        due.fine(x, "alarm(3, 1)", x.alarm(3, 1), 1);
        for (int k : NO_ALARMS) {
            due.refused(x, "calm(no alarm)", x.calm(k), UNKNOWN);
        }
    }

    // Promise 27
    private static void let() {
        ToolRoom x = new ToolRoom();
        for (int number : new int[] {0, 1, -11, MAX, MIN}) {
            x.alarm(1, number);
            for (int time = 0; time < 2; time++) {
                due.is("let(1)", x.let(1), ALARM);
                due.is("why()", x.why(), number);
            }
        }
        due.is("count(6)", x.count(6), 10);
        due.is("count(0)", x.count(0), 6);
        due.refused(x, "let(0)", x.let(0), NOTHING);
        due.is("count(0)", x.count(0), 1);
        for (int k : NO_ALARMS) {
            due.refused(x, "let(no alarm)", x.let(k), UNKNOWN);
        }
    }

    // Promise 28
    private static void why() {
        ToolRoom x = new ToolRoom();
        due.is("why() of a new object", x.why(), 0);
        x.kind(10);
        due.is("why()", x.why(), UNKNOWN);
        due.is("why() again: it looks past itself", x.why(), UNKNOWN);
        x.kind(0);
        due.is("why(): NONE is no refusal", x.why(), 0);
        x.use(0, 1);
        due.is("why()", x.why(), NOTHING);
        x.unhang(0);
        due.is("why()", x.why(), 0);
        x.tool(0, 9);
        due.is("why()", x.why(), OUTSIDE);
        x.tray(0, -1);
        due.is("why()", x.why(), -13);
        x.tray(0, 0);
        due.is("why()", x.why(), 0);
        x.alarm(0, 3);
        x.let(0);
        x.let(1);
        due.is("why()", x.why(), NOTHING);
    }

    // Each call that is carried out wipes what the refused one ahead of it left.
    private static void whyBehindEveryCall() {
        ToolRoom x = new ToolRoom();
        due.fine(x, "tool", x.kind(10) + x.tool(0, 1), UNKNOWN);
        due.fine(x, "hang", x.kind(10) + x.hang(1, 0), UNKNOWN + 1);
        due.fine(x, "unhang", x.kind(10) + x.unhang(1), UNKNOWN + 1);
        due.fine(x, "kind", x.kind(10) + x.kind(0), UNKNOWN + 1);
        due.fine(x, "card", x.kind(10) + x.card(0, 5), UNKNOWN + 1);
        due.fine(x, "rename", x.kind(10) + x.rename(0, 6), UNKNOWN + 1);
        due.fine(x, "of 0", x.kind(10) + x.of(0, 0), UNKNOWN + 6);
        due.fine(x, "of 1", x.kind(10) + x.of(0, 1), UNKNOWN);
        due.fine(x, "of 2", x.kind(10) + x.of(0, 2), UNKNOWN + 10);
        due.fine(x, "of 3", x.kind(10) + x.of(0, 3), UNKNOWN + 100);
        due.fine(x, "uncard", x.kind(10) + x.uncard(0), UNKNOWN + 1);
        due.fine(x, "hone", x.kind(10) + x.hone(0, 50), UNKNOWN + 1);
        due.fine(x, "use", x.kind(10) + x.use(0, 5), UNKNOWN + 5);
        due.fine(x, "tray", x.kind(10) + x.tray(0, 2), UNKNOWN + 2);
        due.fine(x, "shift", x.kind(10) + x.shift(0, 1, 5, 0), UNKNOWN + 1);
        due.fine(x, "put", x.kind(10) + x.put(0, 1, 7), UNKNOWN + 1);
        due.fine(x, "get", x.kind(10) + x.get(0, 1), UNKNOWN + 7);
        due.fine(x, "length", x.kind(10) + x.length(0, 0), UNKNOWN + 2);
        due.fine(x, "lose", x.kind(10) + x.lose(0, 0), UNKNOWN + 1);
        due.fine(x, "rack", x.kind(10) + x.rack(0, 1, 3), UNKNOWN + 3);
        due.fine(x, "lay", x.kind(10) + x.lay(0, 0, 0), UNKNOWN + 1);
        due.fine(x, "fetch", x.kind(10) + x.fetch(0, 0, 1, 2), UNKNOWN + 1);
        due.fine(x, "grid", x.kind(10) + x.grid(0, 2, 2), UNKNOWN + 2);
        due.fine(x, "mark", x.kind(10) + x.mark(0, 1, 1, 4), UNKNOWN + 1);
        due.fine(x, "cell", x.kind(10) + x.cell(0, 1, 1), UNKNOWN + 4);
        due.fine(x, "strike", x.kind(10) + x.strike(0, 1), UNKNOWN + 1);
        due.fine(x, "alarm", x.kind(10) + x.alarm(0, 3), UNKNOWN + 1);
        due.fine(x, "calm", x.kind(10) + x.calm(0), UNKNOWN + 1);
    }

    // Promise 29
    private static void count() {
        ToolRoom x = new ToolRoom();
        x.tool(0, 0);
        x.rack(0, 1, 1);
        x.rack(1, 0, 1);
        x.lay(1, 0, 0);
        x.alarm(0, 9);
        for (int failure = 1; failure <= 6; failure++) {
            for (int time = 0; time < failure; time++) {
                due.is("failure " + failure, meet(x, failure), -10 - failure);
                due.is("count(0)", x.count(0), failure);
            }
        }
        for (int failure = 1; failure <= 6; failure++) {
            due.is("count(" + failure + ")", x.count(failure), failure);
        }
        due.is("count(7)", x.count(7), 0);
        x.use(0, 1);
        x.kind(10);
        x.tool(0, 4);
        due.is("count(7)", x.count(7), 1);
        due.is("count(0): UNKNOWN and OUTSIDE are no failures", x.count(0), 6);
        for (int what : new int[] {-1, 8, MAX, MIN}) {
            due.is("count(" + what + ")", x.count(what), OUTSIDE);
        }
    }

    private static int meet(ToolRoom x, int failure) {
        switch (failure) {
            case 1: return x.put(0, 0, 0);
            case 2: return x.lay(0, 1, 0);
            case 3: return x.tray(0, -1);
            case 4: return x.fetch(1, 0, 1, 0);
            case 5: return x.lay(0, 0, 0);
            default: return x.let(0);
        }
    }

    private static void countKeepsWhy() {
        ToolRoom x = new ToolRoom();
        due.is("count(8)", x.count(8), OUTSIDE);
        due.is("why()", x.why(), 0);
        x.kind(10);
        x.count(0);
        due.is("why()", x.why(), UNKNOWN);
        x.count(-1);
        due.is("why()", x.why(), UNKNOWN);
        x.alarm(0, 50);
        x.let(0);
        x.count(6);
        due.is("why()", x.why(), 50);
    }
}
