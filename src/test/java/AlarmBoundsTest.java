/**
 * The boundary cases of promises 25 to 29, of what the terms say of failures and refusals, and
 * of the 512 calls: one method for each sentence that names one, with the sentence above it.
 */
public final class AlarmBoundsTest {
    private static final int NONE = -1, UNKNOWN = -2, OUTSIDE = -3, NOTHING = -11, ALARM = -16;
    private static final int MAX = Integer.MAX_VALUE, MIN = Integer.MIN_VALUE;
    private static final int[] INTS = {MIN, -16, -11, -3, -2, -1, 0, 1, MAX}, NO_ALARMS = {MIN, -1, 4, MAX};
    private static final int HAMMER = 0, GAUGE = 3, EMPTY = 5;
    private static final int FAILURES = 6, MOST_CALLS = 512;
    private static final Due due = new Due("AlarmBoundsTest");
    private static final Twins twins = new Twins(due, Twins::furnish);

    public static void main(String[] args) {
        alarms();
        why();
        count();
        terms();
        manyCalls();
        due.end();
    }

    private static void alarms() {
        alarmTheLastOnes();
        alarmTwice();
        alarmUnknown();
        calmTheLastOnes();
        calmTwice();
        calmUnknown();
        letTellsTheNumber();
        letStaysThere();
        letUnknown();
        letNothing();
    }

    private static void why() {
        whyAtFirst();
        whyLooksPastItself();
        whyLooksPastCount();
        whyOfEachRefusal();
        whyBehindWhatIsCarriedOut();
    }

    private static void count() {
        countOfEachFailure();
        countOutside();
        countChangesNothing();
        countOfUses();
    }

    private static void terms() {
        failureIsAnsweredByItsNumber();
        latestIsTheLastOne();
        refusalsAreNoFailures();
    }

    private static void manyCalls() {
        manyUses();
        manyFailures();
        manyNewThings();
        manyAlarms();
    }

    private static String named(String call, int... arguments) {
        String list = java.util.Arrays.toString(arguments);
        return call + "(" + list.substring(1, list.length() - 1) + ")";
    }

    // ---- Promise 25: alarm

    // "An ALARM is there with a number: 1, if it was not": that one alone
    private static void alarmTheLastOnes() {
        for (int k : new int[] {0, 3}) {
            for (int number : INTS) {
                ToolRoom x = new ToolRoom();
                due.fine(x, named("alarm", k, number), x.alarm(k, number), 1);
                due.is(named("let", k), x.let(k), ALARM);
                due.is(named("let", k) + ", why()", x.why(), number);
                for (int other = 0; other <= 3; other++) {
                    if (other != k) {
                        due.refused(x, named("let", other), x.let(other), NOTHING);
                    }
                }
            }
        }
    }

    // "0": it was there, and has the new number
    private static void alarmTwice() {
        for (int number : INTS) {
            ToolRoom x = new ToolRoom();
            x.alarm(2, 4);
            due.fine(x, named("alarm", 2, number), x.alarm(2, number), 0);
            due.is("let(2)", x.let(2), ALARM);
            due.is("let(2), why()", x.why(), number);
            due.fine(x, "alarm(2, 4) behind let", x.alarm(2, 4), 0);
            x.calm(2);
            due.fine(x, "alarm(2, 4) behind calm", x.alarm(2, 4), 1);
        }
        twins.tells("alarm(0, 77): the same number", x -> x.alarm(0, 77), 0);
        twins.does("alarm(3, 6)", x -> x.alarm(3, 6), 0, x -> {
            x.calm(3);
            x.alarm(3, 6);
        });
    }

    // "UNKNOWN"
    private static void alarmUnknown() {
        for (int k : NO_ALARMS) {
            for (int number : new int[] {MIN, 1, MAX}) {
                twins.refused(named("alarm", k, number), x -> x.alarm(k, number), UNKNOWN);
            }
        }
    }

    // ---- Promise 26: calm

    // "It is not there: 1": that one alone
    private static void calmTheLastOnes() {
        for (int k : new int[] {0, 3}) {
            ToolRoom x = new ToolRoom();
            for (int other = 0; other <= 3; other++) {
                x.alarm(other, 20 + other);
            }
            due.fine(x, named("calm", k), x.calm(k), 1);
            for (int other = 0; other <= 3; other++) {
                due.is(named("let", other), x.let(other), other == k ? NOTHING : ALARM);
                due.is(named("let", other) + ", why()", x.why(), other == k ? NOTHING : 20 + other);
            }
        }
    }

    // "0: it was not."
    private static void calmTwice() {
        twins.tells("calm(1)", x -> x.calm(1), 0);
        twins.after(x -> x.calm(0)).tells("calm(0) again", x -> x.calm(0), 0);
        ToolRoom x = new ToolRoom();
        x.alarm(1, 0);
        due.fine(x, "calm(1): it was there with 0", x.calm(1), 1);
        due.fine(x, "calm(1)", x.calm(1), 0);
    }

    // "UNKNOWN"
    private static void calmUnknown() {
        for (int k : NO_ALARMS) {
            twins.refused(named("calm", k), x -> x.calm(k), UNKNOWN);
        }
    }

    // ---- Promise 27: let

    // "An ALARM is let off: the FAILURE ALARM, its number is told by why()."
    private static void letTellsTheNumber() {
        for (int number : INTS) {
            ToolRoom x = new ToolRoom();
            x.alarm(3, number);
            x.kind(10);
            due.is("let(3)", x.let(3), ALARM);
            due.is("let(3), why()", x.why(), number);
            due.is("let(3), count(6)", x.count(6), 1);
            due.is("let(3), count(0)", x.count(0), 6);
            due.is("let(3), count(1)", x.count(1), 0);
        }
    }

    // It is not said to be gone: it can be let off again, and calmed.
    private static void letStaysThere() {
        ToolRoom x = new ToolRoom();
        Twins.furnish(x);
        ToolRoom twin = new ToolRoom();
        Twins.furnish(twin);
        due.is("let(0)", x.let(0), ALARM);
        due.is("let(0) again", x.let(0), ALARM);
        due.is("let(0) again, why()", x.why(), 77);
        due.is("count(6)", x.count(6), 2);
        String difference = Reading.of(x).differenceTo(Reading.of(twin));
        due.holds("let(0) changes nothing, but " + difference, difference.isEmpty());
        twins.after(y -> y.let(0)).does("calm(0) behind let", y -> y.calm(0), 1, y -> y.calm(0));
    }

    // "UNKNOWN"
    private static void letUnknown() {
        for (int k : NO_ALARMS) {
            twins.refused(named("let", k), x -> x.let(k), UNKNOWN);
        }
    }

    // "NOTHING: it is not there."
    private static void letNothing() {
        twins.refused("let(1)", x -> x.let(1), NOTHING);
        twins.refused("let(2)", x -> x.let(2), NOTHING);
        twins.after(x -> x.calm(0)).refused("let(0) behind calm", x -> x.let(0), NOTHING);
    }

    // ---- Promise 28: why

    // "0": there was no call yet
    private static void whyAtFirst() {
        ToolRoom x = new ToolRoom();
        due.is("new: why()", x.why(), 0);
        due.is("new: why() again", x.why(), 0);
        x.count(8);
        due.is("new: why() behind count(8)", x.why(), 0);
    }

    // "the latest call but this one"
    private static void whyLooksPastItself() {
        for (int failure = 1; failure <= FAILURES; failure++) {
            ToolRoom x = readyToFail();
            meet(x, failure);
            int first = x.why();
            due.is("why() again", x.why(), first);
            due.is("why() a third time", x.why(), first);
        }
    }

    // "but .. count()", carried out or refused
    private static void whyLooksPastCount() {
        for (int what : new int[] {MIN, -1, 0, 1, 6, 7, 8, MAX}) {
            ToolRoom x = readyToFail();
            x.count(what);
            due.is(named("why() behind a call and count", what), x.why(), 0);
            x.tool(0, 4);
            x.count(what);
            due.is(named("why() behind OUTSIDE and count", what), x.why(), OUTSIDE);
            x.kind(10);
            x.count(what);
            due.is(named("why() behind UNKNOWN and count", what), x.why(), UNKNOWN);
            x.let(1);
            x.count(what);
            due.is(named("why() behind NOTHING and count", what), x.why(), NOTHING);
            x.let(0);
            x.count(what);
            x.why();
            x.count(what);
            due.is(named("why() behind ALARM and count", what), x.why(), 50);
        }
    }

    // "was refused by, -10 less the FAILURE it met (of let() the ALARM's number)"
    private static void whyOfEachRefusal() {
        ToolRoom x = readyToFail();
        x.unhang(10);
        due.is("why(): UNKNOWN", x.why(), UNKNOWN);
        x.shift(0, 10, 0, 0);
        due.is("why(): OUTSIDE", x.why(), OUTSIDE);
        for (int failure = 1; failure <= FAILURES; failure++) {
            meet(x, failure);
            due.is("why(): failure " + failure, x.why(), failure == 6 ? 50 : -10 - failure);
        }
    }

    // "0": of answers that look like a refusal, too
    private static void whyBehindWhatIsCarriedOut() {
        ToolRoom x = readyToFail();
        x.put(3, 0, 0);
        due.fine(x, "kind(5)", x.kind(EMPTY), NONE);
        x.tray(2, 1);
        x.put(2, 0, NOTHING);
        x.kind(10);
        due.fine(x, "get(2, 0)", x.get(2, 0), NOTHING);
        x.card(0, UNKNOWN);
        x.kind(10);
        due.fine(x, "of(0, 0)", x.of(0, 0), UNKNOWN);
        x.let(0);
        due.fine(x, "use(0, -1)", x.use(0, -1), -2);
        x.let(0);
        due.fine(x, "hang(5, 6)", x.hang(EMPTY, 6), 0);
        x.let(0);
        due.fine(x, "lose(0, 3)", x.lose(0, 3), 0);
        x.let(0);
        due.fine(x, "tray(2, 0)", x.tray(2, 0), 0);
        x.let(0);
        due.fine(x, "calm(2)", x.calm(2), 0);
    }

    // A hammer on hook 0 and in rack 1; rack 0 is for blades; alarm 0 has the number 50.
    private static ToolRoom readyToFail() {
        ToolRoom x = new ToolRoom();
        x.tool(0, HAMMER);
        x.rack(0, 1, 1);
        x.rack(1, 0, 1);
        x.lay(1, 0, 0);
        x.alarm(0, 50);
        return x;
    }

    private static int meet(ToolRoom x, int failure) {
        switch (failure) {
            case 1: return x.put(0, 0, 0);
            case 2: return x.lay(0, 1, 0);
            case 3: return x.tray(0, -1);
            case 4: return x.fetch(1, 0, 1, 0);
            case 5: return x.lay(0, 0, 0);
            default: return x.let(0);
        }
    }

    // ---- Promise 29: count

    // "1 .. 6 how often FAILURE 1 .. 6 was met": each alone
    private static void countOfEachFailure() {
        for (int failure = 1; failure <= FAILURES; failure++) {
            ToolRoom x = readyToFail();
            for (int time = 1; time <= 3; time++) {
                meet(x, failure);
                for (int what = 1; what <= 7; what++) {
                    due.is(named("count", what), x.count(what), what == failure ? time : 0);
                }
            }
        }
    }

    // "OUTSIDE."
    private static void countOutside() {
        ToolRoom x = readyToFail();
        meet(x, 2);
        for (int what : new int[] {MIN, -1, 8, MAX}) {
            due.is(named("count", what), x.count(what), OUTSIDE);
            due.is(named("count", what) + ", then count(0)", x.count(0), 2);
        }
        due.is("count(0) is the least", x.count(0), 2);
        due.is("count(7) is the greatest", x.count(7), 0);
    }

    private static void countChangesNothing() {
        for (int what : new int[] {MIN, -1, 0, 7, 8, MAX}) {
            ToolRoom x = new ToolRoom();
            Twins.furnish(x);
            ToolRoom twin = new ToolRoom();
            Twins.furnish(twin);
            x.count(what);
            for (int each = 0; each <= 7; each++) {
                due.is(named("count", each), x.count(each), twin.count(each));
            }
            String difference = Reading.of(x).differenceTo(Reading.of(twin));
            due.holds(named("count", what) + " changes nothing, but " + difference, difference.isEmpty());
        }
    }

    // "7 USES that were made": by use() and by shift(), those ahead of a FAILURE too, no refused ones
    private static void countOfUses() {
        ToolRoom x = new ToolRoom();
        Twins.furnish(x);
        due.is("count(7) at the start", x.count(7), 3);
        x.use(EMPTY, 1);
        x.use(10, 1);
        x.shift(0, 0, 1, 0);
        x.shift(0, 10, 1, 0);
        x.shift(EMPTY, 1, 1, 0);
        due.is("count(7): none was made", x.count(7), 3);
        x.use(0, 0);
        due.is("count(7): one with no force", x.count(7), 4);
        x.shift(0, 3, 1, 0);
        due.is("count(7): three more", x.count(7), 7);
        x.shift(0, 3, 1, 2);
        due.is("count(7): one ahead of NOTHING", x.count(7), 8);
        x.shift(0, 4, 1, 0);
        due.is("count(7): four, the last ahead of INDEX", x.count(7), 12);
        x.shift(9, 9, 1, 3);
        due.is("count(7): one ahead of no hook", x.count(7), 13);
    }

    // ---- Terms

    // "A call that meets one answers -10 less it"
    private static void failureIsAnsweredByItsNumber() {
        ToolRoom x = readyToFail();
        for (int failure = 1; failure <= FAILURES; failure++) {
            due.is("failure " + failure, meet(x, failure), -10 - failure);
        }
    }

    // "LATEST is the one that was met last (0: none ever)."
    private static void latestIsTheLastOne() {
        for (int first = 1; first <= FAILURES; first++) {
            for (int second = 1; second <= FAILURES; second++) {
                ToolRoom x = readyToFail();
                due.is("LATEST: none ever", x.count(0), 0);
                meet(x, first);
                due.is("LATEST", x.count(0), first);
                meet(x, second);
                due.is("LATEST", x.count(0), second);
                x.kind(0);
                due.is("LATEST behind a call that is carried out", x.count(0), second);
            }
        }
    }

    // "Refused, and nothing changes: UNKNOWN .., OUTSIDE ..": LATEST and the counts neither
    private static void refusalsAreNoFailures() {
        ToolRoom x = readyToFail();
        x.kind(10);
        x.kind(-1);
        x.tray(4, -1);
        x.tray(0, 21);
        x.grid(0, 9, -1);
        x.lose(3, 9);
        x.count(8);
        for (int what = 0; what <= 7; what++) {
            due.is(named("count", what), x.count(what), 0);
        }
    }

    // ---- "An object is used for at most 512 calls": up to the last of them all holds

    private static void manyUses() {
        ToolRoom x = new ToolRoom();
        x.tool(9, GAUGE);
        for (int use = 0; use < MOST_CALLS - 2; use++) {
            due.is("use(9, 1), call " + (use + 2), x.use(9, 1), use);
        }
        due.is("count(7), the last call", x.count(7), MOST_CALLS - 2);
    }

    private static void manyFailures() {
        ToolRoom x = new ToolRoom();
        for (int call = 1; call < MOST_CALLS; call++) {
            due.is("tray(0, -1), call " + call, x.tray(0, -1), -13);
        }
        due.is("count(3), the last call", x.count(3), MOST_CALLS - 1);
    }

    private static void manyNewThings() {
        ToolRoom x = new ToolRoom();
        for (int round = 0; round < MOST_CALLS / 4; round++) {
            due.is("tool", x.tool(round % 10, round % 4), round < 10 ? 0 : 1);
            due.is("tray", x.tray(round % 4, 20), 20);
            due.is("rack", x.rack(round % 4, round % 3, 10), 10);
            due.is("grid", x.grid(round % 2, 8, 8), 8);
        }
    }

    private static void manyAlarms() {
        ToolRoom x = new ToolRoom();
        for (int round = 0; round < MOST_CALLS / 4; round++) {
            due.is("alarm", x.alarm(round % 4, round), 1);
            due.is("let", x.let(round % 4), ALARM);
            due.is("why", x.why(), round);
            due.is("calm", x.calm(round % 4), 1);
        }
    }
}
