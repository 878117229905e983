import java.util.ArrayList;
import java.util.List;

/**
 * All that a room tells of what it holds, call by call with why() behind each. Two rooms that
 * hold the same give the same reading; LATEST and the counts are left to who compares them.
 * The room is spent by it: at its end tools get cards and places get tools.
 */
final class Reading {
    private static final int HOOKS = 10, TRAYS = 4, RACKS = 4, GRIDS = 2, ALARMS = 4;
    // One past the greatest width, for no call tells how wide a grid's row is.
    private static final int PROBED_CELLS = 9;

    private final ToolRoom room;
    private final List<String> told = new ArrayList<>();
    private int calls = 0;
    private int lastWhy = 0;

    private Reading(ToolRoom room) {
        this.room = room;
    }

    static Reading of(ToolRoom room) {
        Reading reading = new Reading(room);
        reading.hooks();
        reading.trays();
        reading.grids();
        reading.alarms();
        reading.whichAreTheSame();
        reading.racks();
        reading.sorts();
        return reading;
    }

    int calls() {
        return calls;
    }

    /** The first line that differs, or nothing. */
    String differenceTo(Reading other) {
        int most = Math.max(told.size(), other.told.size());
        for (int i = 0; i < most; i++) {
            String mine = i < told.size() ? told.get(i) : "no more";
            String others = i < other.told.size() ? other.told.get(i) : "no more";
            if (!mine.equals(others)) {
                return mine + ", but due is " + others;
            }
        }
        return "";
    }

    private int heard(String call, int answer) {
        lastWhy = room.why();
        told.add(call + " answers " + answer + ", why() " + lastWhy);
        calls += 2;
        return answer;
    }

    private void hooks() {
        for (int hook = 0; hook < HOOKS; hook++) {
            if (heard("kind(" + hook + ")", room.kind(hook)) == ToolRoom.NONE) {
                continue;
            }
            for (int what = 0; what < 4; what++) {
                heard("of(" + hook + ", " + what + ")", room.of(hook, what));
            }
        }
    }

    private void trays() {
        for (int t = 0; t < TRAYS; t++) {
            int items = heard("length(0, " + t + ")", room.length(0, t));
            for (int i = 0; i < items; i++) {
                heard("get(" + t + ", " + i + ")", room.get(t, i));
            }
        }
    }

    private void grids() {
        for (int g = 0; g < GRIDS; g++) {
            int rows = heard("length(2, " + g + ")", room.length(2, g));
            for (int i = 0; i < rows; i++) {
                row(g, i);
            }
        }
    }

    private void row(int g, int i) {
        for (int j = 0; j < PROBED_CELLS; j++) {
            heard("cell(" + g + ", " + i + ", " + j + ")", room.cell(g, i, j));
            if (lastWhy != 0) {
                return;
            }
        }
    }

    private void alarms() {
        for (int k = 0; k < ALARMS; k++) {
            heard("let(" + k + ")", room.let(k));
        }
    }

    // Each hook's tool gets the hook's name: of the hooks with one tool all tell the last one's.
    private void whichAreTheSame() {
        for (int hook = 0; hook < HOOKS; hook++) {
            room.card(hook, 1000 + hook);
        }
        for (int hook = 0; hook < HOOKS; hook++) {
            heard("then of(" + hook + ", 0)", room.of(hook, 0));
        }
        calls += HOOKS;
    }

    private void racks() {
        for (int r = 0; r < RACKS; r++) {
            int places = heard("length(1, " + r + ")", room.length(1, r));
            for (int i = 0; i < places; i++) {
                place(r, i);
            }
        }
    }

    private void place(int r, int i) {
        String at = "place " + i + " of rack " + r + ": ";
        heard(at + "fetch", room.fetch(r, i, 0, 9));
        if (heard(at + "kind", room.kind(9)) != ToolRoom.NONE) {
            heard(at + "name", room.of(9, 0));
            heard(at + "wear", room.of(9, 1));
        }
    }

    // Which tools a rack takes tells its sort.
    private void sorts() {
        int[] kinds = {0, 1, 3};
        for (int kind : kinds) {
            room.tool(0, kind);
            for (int r = 0; r < RACKS; r++) {
                heard("lay(" + r + ", 0, a tool of kind " + kind + ")", room.lay(r, 0, 0));
            }
        }
        calls += kinds.length;
    }
}
