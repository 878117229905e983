/**
 * Holds a call against what it may change: two rooms are furnished alike, the call is made in
 * one of them, and what ought to come of it is done in the other by other calls (or nothing is,
 * if the call is refused). Then both must tell the same.
 */
final class Twins {
    /** A call, answered. */
    interface Call {
        int on(ToolRoom room);
    }

    /** Calls whose answers don't matter. */
    interface Deed {
        void on(ToolRoom room);
    }

    private static final Deed NO_DEED = room -> { };
    private static final int MOST_CALLS = 512, LEFT_FOR_THE_TEST = 120;

    private final Due due;
    private final Deed furnish;

    Twins(Due due, Deed furnish) {
        this.due = due;
        this.furnish = furnish;
    }

    /** The same, with more done ahead. */
    Twins after(Deed more) {
        return new Twins(due, room -> {
            furnish.on(room);
            more.on(room);
        });
    }

    /** Refused with a code for an answer; nothing changes. */
    void refused(String name, Call call, int code) {
        stopped(name, call, code, code, NO_DEED);
    }

    /** Refused with 0 for an answer, the code told by why(); nothing changes. */
    void zero(String name, Call call, int code) {
        stopped(name, call, 0, code, NO_DEED);
    }

    /** A failure that is met behind what was done ahead of it, which stays. */
    void failsBehind(String name, Call call, int code, Deed doneAhead) {
        stopped(name, call, code, code, doneAhead);
    }

    /** Carried out: it answers, and comes to the same as the deed. */
    void does(String name, Call call, int answer, Deed same) {
        ToolRoom room = furnished();
        ToolRoom twin = furnished();
        same.on(twin);
        due.is(name, call.on(room), answer);
        due.is(name + ", then why()", room.why(), 0);
        for (int what = 0; what < 8; what++) {
            due.is(name + ", then count(" + what + ")", room.count(what), twin.count(what));
        }
        sameReading(name, room, twin);
    }

    /** Carried out, and only tells: nothing changes. */
    void tells(String name, Call call, int answer) {
        does(name, call, answer, NO_DEED);
    }

    private void stopped(String name, Call call, int answer, int code, Deed doneAhead) {
        ToolRoom room = furnished();
        ToolRoom twin = furnished();
        doneAhead.on(twin);
        due.is(name, call.on(room), answer);
        due.is(name + ", then why()", room.why(), code);
        counts(name, room, twin, code);
        sameReading(name, room, twin);
    }

    // A FAILURE is counted once and is the LATEST; UNKNOWN and OUTSIDE are counted nowhere.
    private void counts(String name, ToolRoom room, ToolRoom twin, int code) {
        int failure = code <= -11 ? -10 - code : 0;
        due.is(name + ", then count(0)", room.count(0), failure != 0 ? failure : twin.count(0));
        for (int what = 1; what < 8; what++) {
            int more = what == failure ? 1 : 0;
            due.is(name + ", then count(" + what + ")", room.count(what), twin.count(what) + more);
        }
    }

    private void sameReading(String name, ToolRoom room, ToolRoom twin) {
        Reading reading = Reading.of(room);
        String difference = reading.differenceTo(Reading.of(twin));
        due.holds(name + ", then " + difference, difference.isEmpty());
        due.holds(name + ": no object is used for more than 512 calls",
            reading.calls() + LEFT_FOR_THE_TEST <= MOST_CALLS);
    }

    // Its last call is refused with a number that no other call leaves, so that a why() that
    // was not told anew is seen.
    private ToolRoom furnished() {
        ToolRoom room = new ToolRoom();
        furnish.on(room);
        room.let(3);
        return room;
    }

    /**
     * Something of everything. Hooks: 0 a used hammer with a card (5), 1 a blade, 2 a file, 3 a
     * used gauge with a card (0), 4 the blade of hook 1, 5 .. 8 nothing, 9 a gauge. Trays: 0 of
     * 3 items, 1 of none, 2 missing, 3 of 9. Racks: 0 for any of 2 places (the hammer, nothing),
     * 1 for blades of 2 (the file, nothing), 2 for gauges of none, 3 missing. Grids: 0 of 3 rows
     * of 2, row 1 missing; 1 missing. Alarms: 0 with 77, 3 with -5. NOTHING and INDEX were met.
     */
    static void furnish(ToolRoom room) {
        for (int kind = 0; kind < 4; kind++) {
            room.tool(kind, kind);
        }
        room.hang(4, 1);
        room.tool(9, 3);
        room.card(0, 5);
        room.card(3, 0);
        room.use(0, 7);
        room.use(2, 8);
        room.use(3, 9);
        furnishHolders(room);
        room.alarm(0, 77);
        room.alarm(3, -5);
        room.card(8, 1);
        room.put(0, 3, 1);
    }

    private static void furnishHolders(ToolRoom room) {
        room.tray(0, 3);
        room.tray(1, 0);
        room.tray(3, 9);
        for (int i = 0; i < 3; i++) {
            room.put(0, i, 31 + i);
            room.put(3, 3 * i, 41 + i);
        }
        room.rack(0, 0, 2);
        room.rack(1, 1, 2);
        room.rack(2, 2, 0);
        room.lay(0, 0, 0);
        room.lay(1, 0, 2);
        room.grid(0, 3, 2);
        for (int i = 0; i < 3; i++) {
            room.mark(0, i, 0, 51 + i);
            room.mark(0, i, 1, 61 + i);
        }
        room.strike(0, 1);
    }
}
