/**
 * A tool room: hooks, tools, trays, racks, grids and alarms. A call that cannot be
 * carried out is answered by a number, never by the machine: every index and every
 * reference is looked at ahead of its use.
 */
public final class ToolRoom {
    public static final int NONE = -1, UNKNOWN = -2, OUTSIDE = -3;

    private static final int NO_FAILURE = 0, NOTHING = 1, INDEX = 2, SIZE = 3, CAST = 4, STORE = 5, ALARM = 6;
    private static final int FAILURES = 6, FAILURE_BASE = -10;
    private static final int COUNT_LATEST = 0, COUNT_USES = 7;

    private static final int HOOKS = 10, TRAYS = 4, RACKS = 4, GRIDS = 2, ALARMS = 4;
    private static final int MOST_SHIFTS = 9, MOST_ITEMS = 20, MOST_PLACES = 10, MOST_ROWS = 8;

    private static final int HAMMER = 0, BLADE = 1, FILE = 2, GAUGE = 3, KINDS = 4;
    private static final int OF_NAME = 0, OF_WEAR = 1, OF_WEIGHT = 2, OF_KINDS = 4;
    private static final int SORT_ANY = 0, SORT_BLADES = 1, SORTS = 3;
    private static final int A_TRAY = 0, A_RACK = 1, HOLDERS = 3;

    private final Tool[] hooks = new Tool[HOOKS];
    private final Row[] trays = new Row[TRAYS];
    private final Rack[] racks = new Rack[RACKS];
    private final Grid[] grids = new Grid[GRIDS];
    private final boolean[] alarmIsThere = new boolean[ALARMS];
    private final int[] alarmNumbers = new int[ALARMS];

    private final int[] met = new int[FAILURES + 1];
    private int latest = NO_FAILURE;
    private int uses = 0;
    private int reason = 0;

    public ToolRoom() {
        for (int t = 0; t < TRAYS; t++) {
            trays[t] = new Row(MOST_ITEMS);
        }
        for (int r = 0; r < RACKS; r++) {
            racks[r] = new Rack();
        }
        for (int g = 0; g < GRIDS; g++) {
            grids[g] = new Grid();
        }
    }

    // ---- tools

    public int tool(int hook, int kind) {
        if (!isWithin(hook, HOOKS)) {
            return refuse(UNKNOWN);
        }
        if (!isWithin(kind, KINDS)) {
            return refuse(OUTSIDE);
        }
        boolean heldOne = hooks[hook] != null;
        hooks[hook] = newTool(kind);
        return done(heldOne ? 1 : 0);
    }

    public int hang(int g, int h) {
        if (!isWithin(g, HOOKS) || !isWithin(h, HOOKS)) {
            return refuse(UNKNOWN);
        }
        hooks[g] = hooks[h];
        return done(hooks[g] != null ? 1 : 0);
    }

    public int unhang(int hook) {
        if (!isWithin(hook, HOOKS)) {
            return refuse(UNKNOWN);
        }
        boolean heldOne = hooks[hook] != null;
        hooks[hook] = null;
        return done(heldOne ? 1 : 0);
    }

    public int kind(int hook) {
        if (!isWithin(hook, HOOKS)) {
            return refuse(UNKNOWN);
        }
        Tool tool = hooks[hook];
        return done(tool == null ? NONE : tool.kindNumber());
    }

    public int card(int hook, int name) {
        if (!isWithin(hook, HOOKS)) {
            return refuse(UNKNOWN);
        }
        Tool tool = hooks[hook];
        if (tool == null) {
            return fail(NOTHING);
        }
        tool.hasCard = true;
        tool.name = name;
        return done(1);
    }

    public int uncard(int hook) {
        if (!isWithin(hook, HOOKS)) {
            return refuse(UNKNOWN);
        }
        Tool tool = hooks[hook];
        if (tool == null) {
            return fail(NOTHING);
        }
        tool.hasCard = false;
        return done(1);
    }

    public int rename(int hook, int v) {
        if (!isWithin(hook, HOOKS)) {
            return refuse(UNKNOWN);
        }
        Tool tool = hooks[hook];
        if (tool == null || !tool.hasCard) {
            return fail(NOTHING);
        }
        tool.name = v;
        return done(1);
    }

    public int of(int hook, int what) {
        if (!isWithin(hook, HOOKS)) {
            return refuseWithZero(UNKNOWN);
        }
        if (!isWithin(what, OF_KINDS)) {
            return refuseWithZero(OUTSIDE);
        }
        Tool tool = hooks[hook];
        if (tool == null) {
            return failWithZero(NOTHING);
        }
        switch (what) {
            case OF_NAME:
                return tool.hasCard ? done(tool.name) : failWithZero(NOTHING);
            case OF_WEAR:
                return done(tool.wear);
            case OF_WEIGHT:
                return done(tool.weight());
            default:
                return edgeOf(tool);
        }
    }

    private int edgeOf(Tool tool) {
        if (tool instanceof Blade blade) {
            return done(blade.edge);
        }
        return failWithZero(CAST);
    }

    public int hone(int hook, int v) {
        if (!isWithin(hook, HOOKS)) {
            return refuse(UNKNOWN);
        }
        Tool tool = hooks[hook];
        if (tool == null) {
            return fail(NOTHING);
        }
        if (tool instanceof Blade blade) {
            blade.edge = v;
            return done(1);
        }
        return fail(CAST);
    }

    public int use(int hook, int force) {
        if (!isWithin(hook, HOOKS)) {
            return refuseWithZero(UNKNOWN);
        }
        Tool tool = hooks[hook];
        if (tool == null) {
            return failWithZero(NOTHING);
        }
        uses++;
        return done(tool.work(force));
    }

    public int shift(int h, int n, int f, int tray) {
        if (!isWithin(h, HOOKS) || !isWithin(tray, TRAYS)) {
            return refuse(UNKNOWN);
        }
        if (n < 0 || n > MOST_SHIFTS) {
            return refuse(OUTSIDE);
        }
        Row items = trays[tray];
        for (int k = 0; k < n; k++) {
            int failure = shiftOnce(h + k, f, items, k);
            if (failure != NO_FAILURE) {
                return fail(failure);
            }
        }
        return done(n);
    }

    // The USE comes ahead of the looks at the TRAY: it stays when one of these fails.
    private int shiftOnce(int hook, int force, Row items, int k) {
        if (!isWithin(hook, HOOKS)) {
            return INDEX;
        }
        Tool tool = hooks[hook];
        if (tool == null) {
            return NOTHING;
        }
        uses++;
        int told = tool.work(force);
        int failure = failureAt(items, k);
        if (failure == NO_FAILURE) {
            items.numbers[k] = told;
        }
        return failure;
    }

    private static Tool newTool(int kind) {
        switch (kind) {
            case HAMMER:
                return new Hammer();
            case BLADE:
                return new Blade();
            case FILE:
                return new FileBlade();
            default:
                return new Gauge();
        }
    }

    // ---- trays, racks, grids

    public int tray(int t, int n) {
        if (!isWithin(t, TRAYS)) {
            return refuse(UNKNOWN);
        }
        if (n > MOST_ITEMS) {
            return refuse(OUTSIDE);
        }
        if (n < 0) {
            return fail(SIZE);
        }
        trays[t].renew(n);
        return done(n);
    }

    public int lose(int what, int k) {
        if (!isWithin(what, HOLDERS)) {
            return refuse(OUTSIDE);
        }
        Holder holder = holderOrNull(what, k);
        if (holder == null) {
            return refuse(UNKNOWN);
        }
        return done(holder.vanish() ? 1 : 0);
    }

    public int put(int t, int i, int v) {
        if (!isWithin(t, TRAYS)) {
            return refuse(UNKNOWN);
        }
        Row items = trays[t];
        int failure = failureAt(items, i);
        if (failure != NO_FAILURE) {
            return fail(failure);
        }
        items.numbers[i] = v;
        return done(1);
    }

    public int get(int t, int i) {
        if (!isWithin(t, TRAYS)) {
            return refuseWithZero(UNKNOWN);
        }
        Row items = trays[t];
        int failure = failureAt(items, i);
        if (failure != NO_FAILURE) {
            return failWithZero(failure);
        }
        return done(items.numbers[i]);
    }

    public int length(int what, int k) {
        if (!isWithin(what, HOLDERS)) {
            return refuse(OUTSIDE);
        }
        Holder holder = holderOrNull(what, k);
        if (holder == null) {
            return refuse(UNKNOWN);
        }
        return holder.isMissing() ? fail(NOTHING) : done(holder.size);
    }

    public int rack(int r, int sort, int n) {
        if (!isWithin(r, RACKS)) {
            return refuse(UNKNOWN);
        }
        if (!isWithin(sort, SORTS) || n > MOST_PLACES) {
            return refuse(OUTSIDE);
        }
        if (n < 0) {
            return fail(SIZE);
        }
        racks[r].renew(sort, n);
        return done(n);
    }

    public int lay(int r, int i, int hook) {
        if (!isWithin(r, RACKS) || !isWithin(hook, HOOKS)) {
            return refuse(UNKNOWN);
        }
        Rack rack = racks[r];
        int failure = failureAt(rack, i);
        if (failure != NO_FAILURE) {
            return fail(failure);
        }
        Tool tool = hooks[hook];
        if (!isOfSort(tool, rack.sort)) {
            return fail(STORE);
        }
        rack.places[i] = tool;
        return done(1);
    }

    public int fetch(int r, int i, int sort, int hook) {
        if (!isWithin(r, RACKS) || !isWithin(hook, HOOKS)) {
            return refuse(UNKNOWN);
        }
        if (!isWithin(sort, SORTS)) {
            return refuse(OUTSIDE);
        }
        Rack rack = racks[r];
        int failure = failureAt(rack, i);
        if (failure != NO_FAILURE) {
            return fail(failure);
        }
        Tool tool = rack.places[i];
        if (!isOfSort(tool, sort)) {
            return fail(CAST);
        }
        hooks[hook] = tool;
        return done(1);
    }

    public int grid(int g, int n, int m) {
        if (!isWithin(g, GRIDS)) {
            return refuse(UNKNOWN);
        }
        if (n > MOST_ROWS || m > MOST_ROWS) {
            return refuse(OUTSIDE);
        }
        if (n < 0 || m < 0) {
            return fail(SIZE);
        }
        grids[g].renew(n, m);
        return done(n);
    }

    public int strike(int g, int i) {
        if (!isWithin(g, GRIDS)) {
            return refuse(UNKNOWN);
        }
        Grid grid = grids[g];
        int failure = failureAt(grid, i);
        if (failure != NO_FAILURE) {
            return fail(failure);
        }
        return done(grid.rows[i].vanish() ? 1 : 0);
    }

    public int mark(int g, int i, int j, int v) {
        if (!isWithin(g, GRIDS)) {
            return refuse(UNKNOWN);
        }
        Grid grid = grids[g];
        int failure = failureAtCell(grid, i, j);
        if (failure != NO_FAILURE) {
            return fail(failure);
        }
        grid.rows[i].numbers[j] = v;
        return done(1);
    }

    public int cell(int g, int i, int j) {
        if (!isWithin(g, GRIDS)) {
            return refuseWithZero(UNKNOWN);
        }
        Grid grid = grids[g];
        int failure = failureAtCell(grid, i, j);
        if (failure != NO_FAILURE) {
            return failWithZero(failure);
        }
        return done(grid.rows[i].numbers[j]);
    }

    private Holder holderOrNull(int what, int k) {
        switch (what) {
            case A_TRAY:
                return isWithin(k, TRAYS) ? trays[k] : null;
            case A_RACK:
                return isWithin(k, RACKS) ? racks[k] : null;
            default:
                return isWithin(k, GRIDS) ? grids[k] : null;
        }
    }

    private static int failureAt(Holder holder, int i) {
        if (holder.isMissing()) {
            return NOTHING;
        }
        return isWithin(i, holder.size) ? NO_FAILURE : INDEX;
    }

    private static int failureAtCell(Grid grid, int i, int j) {
        int failure = failureAt(grid, i);
        return failure != NO_FAILURE ? failure : failureAt(grid.rows[i], j);
    }

    // Nothing is of every SORT: an empty place fits, and may be meant as anything.
    private static boolean isOfSort(Tool tool, int sort) {
        if (tool == null || sort == SORT_ANY) {
            return true;
        }
        return sort == SORT_BLADES ? tool instanceof Blade : tool instanceof Gauge;
    }

    // ---- alarms

    public int alarm(int k, int number) {
        if (!isWithin(k, ALARMS)) {
            return refuse(UNKNOWN);
        }
        boolean wasThere = alarmIsThere[k];
        alarmIsThere[k] = true;
        alarmNumbers[k] = number;
        return done(wasThere ? 0 : 1);
    }

    public int calm(int k) {
        if (!isWithin(k, ALARMS)) {
            return refuse(UNKNOWN);
        }
        boolean wasThere = alarmIsThere[k];
        alarmIsThere[k] = false;
        return done(wasThere ? 1 : 0);
    }

    public int let(int k) {
        if (!isWithin(k, ALARMS)) {
            return refuse(UNKNOWN);
        }
        if (!alarmIsThere[k]) {
            return fail(NOTHING);
        }
        int answer = fail(ALARM);
        reason = alarmNumbers[k];
        return answer;
    }

    public int why() {
        return reason;
    }

    // A refusal here is not kept: why() looks past every call of count().
    public int count(int what) {
        if (what == COUNT_LATEST) {
            return latest;
        }
        if (what == COUNT_USES) {
            return uses;
        }
        return what >= 1 && what <= FAILURES ? met[what] : OUTSIDE;
    }

    // ---- how a call ends

    private int done(int answer) {
        reason = 0;
        return answer;
    }

    private int refuse(int code) {
        reason = code;
        return code;
    }

    private int fail(int failure) {
        met[failure]++;
        latest = failure;
        return refuse(FAILURE_BASE - failure);
    }

    // For calls whose answer may be any int: only why() can tell that they were refused.
    private int refuseWithZero(int code) {
        refuse(code);
        return 0;
    }

    private int failWithZero(int failure) {
        fail(failure);
        return 0;
    }

    private static boolean isWithin(int number, int bound) {
        return number >= 0 && number < bound;
    }

    // ---- what the room holds

    private abstract static class Tool {
        int wear = 0;
        boolean hasCard = false;
        int name = 0;

        abstract int kindNumber();

        abstract int weight();

        abstract int work(int force);
    }

    private static final class Hammer extends Tool {
        @Override
        int kindNumber() {
            return HAMMER;
        }

        @Override
        int weight() {
            return 50 + wear;
        }

        @Override
        int work(int force) {
            wear += force;
            return 2 * force;
        }
    }

    private static class Blade extends Tool {
        int edge = 100;

        @Override
        int kindNumber() {
            return BLADE;
        }

        @Override
        int weight() {
            return 10;
        }

        @Override
        int work(int force) {
            edge -= force;
            return force + wear;
        }
    }

    private static final class FileBlade extends Blade {
        @Override
        int kindNumber() {
            return FILE;
        }

        @Override
        int weight() {
            return 12;
        }

        @Override
        int work(int force) {
            int told = super.work(force) + 1;
            edge++;
            return told;
        }
    }

    private static final class Gauge extends Tool {
        @Override
        int kindNumber() {
            return GAUGE;
        }

        @Override
        int weight() {
            return 5;
        }

        @Override
        int work(int force) {
            int told = wear;
            wear++;
            return told;
        }
    }

    // Its parts are made once, at their most, and used again: size tells how many count now.
    private abstract static class Holder {
        private static final int MISSING = -1;

        int size = MISSING;

        final boolean isMissing() {
            return size == MISSING;
        }

        final boolean vanish() {
            boolean wasThere = !isMissing();
            size = MISSING;
            return wasThere;
        }
    }

    /** A TRAY, or a row of a GRID. */
    private static final class Row extends Holder {
        final int[] numbers;

        Row(int most) {
            numbers = new int[most];
        }

        void renew(int n) {
            for (int i = 0; i < numbers.length; i++) {
                numbers[i] = 0;
            }
            size = n;
        }
    }

    private static final class Rack extends Holder {
        final Tool[] places = new Tool[MOST_PLACES];
        int sort = SORT_ANY;

        void renew(int newSort, int n) {
            for (int i = 0; i < MOST_PLACES; i++) {
                places[i] = null;
            }
            sort = newSort;
            size = n;
        }
    }

    private static final class Grid extends Holder {
        final Row[] rows = new Row[MOST_ROWS];

        Grid() {
            for (int i = 0; i < MOST_ROWS; i++) {
                rows[i] = new Row(MOST_ROWS);
            }
        }

        void renew(int n, int m) {
            for (int i = 0; i < n; i++) {
                rows[i].renew(m);
            }
            size = n;
        }
    }
}
