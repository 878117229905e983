/** Promises 13 to 24: trays, racks and grids. */
public final class HoldersTest {
    private static final int UNKNOWN = -2, OUTSIDE = -3;
    private static final int NOTHING = -11, INDEX = -12, SIZE = -13, CAST = -14, STORE = -15;
    private static final int MAX = Integer.MAX_VALUE, MIN = Integer.MIN_VALUE;
    private static final int[] NO_FOURTH = {-1, 4, MAX, MIN}, NO_THIRD = {-1, 3, MAX, MIN}, NO_SECOND = {-1, 2, MAX, MIN};
    private static final int[] NO_HOOKS = {-1, 10, MAX, MIN};
    private static final Due due = new Due("HoldersTest");

    public static void main(String[] args) {
        tray();
        lose();
        putAndGet();
        length();
        rack();
        layWhatFits();
        layRefused();
        fetch();
        fetchRefused();
        grid();
        strike();
        markAndCell();
        cellRefused();
        due.end();
    }

    // Hooks 0 .. 3 hold the kinds 0 .. 3, the others nothing.
    private static ToolRoom withEachKind() {
        ToolRoom x = new ToolRoom();
        for (int kind = 0; kind < 4; kind++) {
            x.tool(kind, kind);
        }
        return x;
    }

    // Promise 13
    private static void tray() {
        ToolRoom x = new ToolRoom();
        due.fine(x, "tray(0, 20)", x.tray(0, 20), 20);
        due.fine(x, "tray(3, 0)", x.tray(3, 0), 0);
        due.is("length(0, 3)", x.length(0, 3), 0);
        for (int i = 0; i < 20; i++) {
            due.fine(x, "get(0, " + i + ")", x.get(0, i), 0);
            x.put(0, i, i + 1);
        }
        due.refused(x, "tray(0, 21)", x.tray(0, 21), OUTSIDE);
        due.refused(x, "tray(0, MAX)", x.tray(0, MAX), OUTSIDE);
        due.refused(x, "tray(0, -1)", x.tray(0, -1), SIZE);
        due.refused(x, "tray(0, MIN)", x.tray(0, MIN), SIZE);
        due.is("length(0, 0): it stays", x.length(0, 0), 20);
        due.is("get(0, 19): it stays", x.get(0, 19), 20);
        due.fine(x, "tray(0, 5)", x.tray(0, 5), 5);
        due.fine(x, "tray(0, 20)", x.tray(0, 20), 20);
        for (int i = 0; i < 20; i++) {
            due.is("get(0, " + i + "): new items", x.get(0, i), 0);
        }
        for (int t : NO_FOURTH) {
            due.refused(x, "tray(no tray, 1)", x.tray(t, 1), UNKNOWN);
            due.refused(x, "tray(no tray, 21)", x.tray(t, 21), UNKNOWN);
            due.refused(x, "tray(no tray, -1)", x.tray(t, -1), UNKNOWN);
        }
        due.refused(x, "tray(1, -1) of a missing one", x.tray(1, -1), SIZE);
        due.fine(x, "lose(0, 1): it is missing still", x.lose(0, 1), 0);
        due.is("count(3)", x.count(3), 3);
    }

    // Promise 14
    private static void lose() {
        ToolRoom x = new ToolRoom();
        for (int k = 0; k < 2; k++) {
            x.tray(k, 0);
            x.rack(k, 0, 0);
            x.grid(k, 0, 0);
        }
        for (int what = 0; what < 3; what++) {
            due.fine(x, "lose(" + what + ", 1)", x.lose(what, 1), 1);
            due.fine(x, "lose(" + what + ", 1)", x.lose(what, 1), 0);
            due.refused(x, "length(" + what + ", 1)", x.length(what, 1), NOTHING);
            due.fine(x, "length(" + what + ", 0)", x.length(what, 0), 0);
        }
        for (int k : NO_FOURTH) {
            due.refused(x, "lose(0, no tray)", x.lose(0, k), UNKNOWN);
            due.refused(x, "lose(1, no rack)", x.lose(1, k), UNKNOWN);
        }
        for (int k : NO_SECOND) {
            due.refused(x, "lose(2, no grid)", x.lose(2, k), UNKNOWN);
        }
        for (int what : NO_THIRD) {
            due.refused(x, "lose(" + what + ", 0)", x.lose(what, 0), OUTSIDE);
            due.refused(x, "lose(" + what + ", 9)", x.lose(what, 9), OUTSIDE);
        }
        due.fine(x, "lose(0, 3)", x.lose(0, 3), 0);
        due.fine(x, "lose(1, 3)", x.lose(1, 3), 0);
    }

    // Promises 15 and 16
    private static void putAndGet() {
        ToolRoom x = new ToolRoom();
        due.refused(x, "put(0, 0, 1) without a tray", x.put(0, 0, 1), NOTHING);
        due.refused(x, "put(0, -1, 1) without a tray", x.put(0, -1, 1), NOTHING);
        due.zero(x, "get(0, 0) without a tray", x.get(0, 0), NOTHING);
        due.zero(x, "get(0, -1) without a tray", x.get(0, -1), NOTHING);
        x.tray(0, 3);
        x.tray(1, 3);
        due.fine(x, "put(0, 0, MIN)", x.put(0, 0, MIN), 1);
        due.fine(x, "put(0, 2, -9)", x.put(0, 2, -9), 1);
        due.fine(x, "get(0, 0)", x.get(0, 0), MIN);
        due.fine(x, "get(0, 1)", x.get(0, 1), 0);
        due.fine(x, "get(0, 2)", x.get(0, 2), -9);
        due.fine(x, "get(1, 2)", x.get(1, 2), 0);
        for (int i : new int[] {-1, 3, 19, 20, MAX, MIN}) {
            due.refused(x, "put(0, " + i + ", 1)", x.put(0, i, 1), INDEX);
            due.zero(x, "get(0, " + i + ")", x.get(0, i), INDEX);
        }
        for (int t : NO_FOURTH) {
            due.refused(x, "put(no tray, 0, 1)", x.put(t, 0, 1), UNKNOWN);
            due.zero(x, "get(no tray, 0)", x.get(t, 0), UNKNOWN);
        }
        x.tray(0, 0);
        due.zero(x, "get(0, 0) of no items", x.get(0, 0), INDEX);
        due.is("count(1)", x.count(1), 4);
        due.is("count(2)", x.count(2), 13);
    }

    // Promise 17
    private static void length() {
        ToolRoom x = new ToolRoom();
        for (int what = 0; what < 3; what++) {
            due.refused(x, "length(" + what + ", 1)", x.length(what, 1), NOTHING);
        }
        x.tray(1, 20);
        x.rack(1, 2, 10);
        x.grid(1, 8, 3);
        due.fine(x, "length(0, 1)", x.length(0, 1), 20);
        due.fine(x, "length(1, 1)", x.length(1, 1), 10);
        due.fine(x, "length(2, 1)", x.length(2, 1), 8);
        for (int k : NO_FOURTH) {
            due.refused(x, "length(0, no tray)", x.length(0, k), UNKNOWN);
            due.refused(x, "length(1, no rack)", x.length(1, k), UNKNOWN);
        }
        for (int k : NO_SECOND) {
            due.refused(x, "length(2, no grid)", x.length(2, k), UNKNOWN);
        }
        for (int what : NO_THIRD) {
            due.refused(x, "length(" + what + ", 1)", x.length(what, 1), OUTSIDE);
            due.refused(x, "length(" + what + ", 9)", x.length(what, 9), OUTSIDE);
        }
        due.is("count(1)", x.count(1), 3);
    }

    // Promise 18
    private static void rack() {
        ToolRoom x = withEachKind();
        due.fine(x, "rack(0, 0, 10)", x.rack(0, 0, 10), 10);
        due.fine(x, "rack(3, 2, 0)", x.rack(3, 2, 0), 0);
        for (int i = 0; i < 10; i++) {
            x.lay(0, i, i % 4);
        }
        due.refused(x, "rack(0, 1, 11)", x.rack(0, 1, 11), OUTSIDE);
        due.refused(x, "rack(0, 1, MAX)", x.rack(0, 1, MAX), OUTSIDE);
        for (int sort : NO_THIRD) {
            due.refused(x, "rack(0, " + sort + ", 1)", x.rack(0, sort, 1), OUTSIDE);
            due.refused(x, "rack(0, " + sort + ", -1)", x.rack(0, sort, -1), OUTSIDE);
        }
        due.refused(x, "rack(0, 1, -1)", x.rack(0, 1, -1), SIZE);
        due.refused(x, "rack(0, 1, MIN)", x.rack(0, 1, MIN), SIZE);
        for (int r : NO_FOURTH) {
            due.refused(x, "rack(no rack, 3, -1)", x.rack(r, 3, -1), UNKNOWN);
        }
        due.is("length(1, 0): it stays", x.length(1, 0), 10);
        due.fine(x, "lay(0, 0, 0): its sort stays", x.lay(0, 0, 0), 1);
        x.fetch(0, 9, 0, 9);
        due.is("kind(9): its places stay", x.kind(9), 1);
        due.fine(x, "rack(0, 1, 10)", x.rack(0, 1, 10), 10);
        for (int i = 0; i < 10; i++) {
            x.tool(9, 0);
            due.fine(x, "fetch(0, " + i + ", 2, 9)", x.fetch(0, i, 2, 9), 1);
            due.is("kind(9): new places are empty", x.kind(9), ToolRoom.NONE);
        }
        due.refused(x, "lay(0, 0, 0): its sort is new", x.lay(0, 0, 0), STORE);
    }

    // Promise 19
    private static void layWhatFits() {
        ToolRoom x = withEachKind();
        boolean[][] fits = {{true, true, true, true}, {false, true, true, false}, {false, false, false, true}};
        for (int sort = 0; sort < 3; sort++) {
            x.rack(sort, sort, 1);
            for (int kind = 0; kind < 4; kind++) {
                String call = "lay(" + sort + ", 0, " + kind + ")";
                if (fits[sort][kind]) {
                    due.fine(x, call, x.lay(sort, 0, kind), 1);
                } else {
                    due.refused(x, call, x.lay(sort, 0, kind), STORE);
                }
            }
            due.fine(x, "lay(" + sort + ", 0, 8): nothing", x.lay(sort, 0, 8), 1);
            x.tool(7, 3);
            x.fetch(sort, 0, 0, 7);
            due.is("kind(7): the place is empty", x.kind(7), ToolRoom.NONE);
        }
        due.is("count(5)", x.count(5), 5);
    }

    private static void layRefused() {
        ToolRoom x = withEachKind();
        due.refused(x, "lay(0, -1, 0) without a rack", x.lay(0, -1, 0), NOTHING);
        x.rack(0, 1, 2);
        x.lay(0, 1, 1);
        for (int i : new int[] {-1, 2, 9, 10, MAX, MIN}) {
            due.refused(x, "lay(0, " + i + ", 0)", x.lay(0, i, 0), INDEX);
            due.refused(x, "lay(0, " + i + ", 8)", x.lay(0, i, 8), INDEX);
        }
        for (int r : NO_FOURTH) {
            due.refused(x, "lay(no rack, 0, 0)", x.lay(r, 0, 0), UNKNOWN);
        }
        for (int hook : NO_HOOKS) {
            due.refused(x, "lay(0, 0, no hook)", x.lay(0, 0, hook), UNKNOWN);
            due.refused(x, "lay(1, 0, no hook) without a rack", x.lay(1, 0, hook), UNKNOWN);
        }
        due.refused(x, "lay(0, 1, 3)", x.lay(0, 1, 3), STORE);
        x.fetch(0, 1, 0, 9);
        due.is("kind(9): the place stays", x.kind(9), 1);
        x.use(9, 1);
        due.is("of(1, 3): it is the same tool", x.of(1, 3), 99);
    }

    // Promise 20
    private static void fetch() {
        ToolRoom x = withEachKind();
        boolean[][] meant = {{true, true, true, true}, {false, true, true, false}, {false, false, false, true}};
        x.rack(3, 0, 5);
        for (int kind = 0; kind < 4; kind++) {
            x.lay(3, kind, kind);
        }
        for (int sort = 0; sort < 3; sort++) {
            for (int kind = 0; kind < 4; kind++) {
                String call = "fetch(3, " + kind + ", " + sort + ", 9)";
                x.unhang(9);
                if (meant[sort][kind]) {
                    due.fine(x, call, x.fetch(3, kind, sort, 9), 1);
                    due.is("kind(9)", x.kind(9), kind);
                } else {
                    due.refused(x, call, x.fetch(3, kind, sort, 9), CAST);
                    due.is("kind(9)", x.kind(9), ToolRoom.NONE);
                }
            }
            x.tool(9, 0);
            due.fine(x, "fetch(3, 4, " + sort + ", 9): nothing", x.fetch(3, 4, sort, 9), 1);
            due.is("kind(9)", x.kind(9), ToolRoom.NONE);
        }
        due.fine(x, "fetch(3, 0, 0, 8): it stays there", x.fetch(3, 0, 0, 8), 1);
        due.is("kind(8)", x.kind(8), 0);
        due.is("count(4)", x.count(4), 5);
    }

    private static void fetchRefused() {
        ToolRoom x = withEachKind();
        due.refused(x, "fetch(0, -1, 0, 0) without a rack", x.fetch(0, -1, 0, 0), NOTHING);
        x.rack(0, 0, 2);
        for (int i : new int[] {-1, 2, 9, 10, MAX, MIN}) {
            due.refused(x, "fetch(0, " + i + ", 0, 0)", x.fetch(0, i, 0, 0), INDEX);
        }
        for (int r : NO_FOURTH) {
            due.refused(x, "fetch(no rack, 0, 3, 0)", x.fetch(r, 0, 3, 0), UNKNOWN);
        }
        for (int hook : NO_HOOKS) {
            due.refused(x, "fetch(0, 0, 3, no hook)", x.fetch(0, 0, 3, hook), UNKNOWN);
        }
        for (int sort : NO_THIRD) {
            due.refused(x, "fetch(0, 0, " + sort + ", 0)", x.fetch(0, 0, sort, 0), OUTSIDE);
            due.refused(x, "fetch(1, 9, " + sort + ", 0) without a rack", x.fetch(1, 9, sort, 0), OUTSIDE);
        }
        due.is("kind(0) after refusals", x.kind(0), 0);
    }

    // Promise 21
    private static void grid() {
        ToolRoom x = new ToolRoom();
        due.fine(x, "grid(0, 8, 8)", x.grid(0, 8, 8), 8);
        due.fine(x, "grid(1, 3, 0)", x.grid(1, 3, 0), 3);
        due.zero(x, "cell(1, 2, 0)", x.cell(1, 2, 0), INDEX);
        for (int i = 0; i < 8; i++) {
            for (int j = 0; j < 8; j++) {
                due.fine(x, "cell(0, i, j)", x.cell(0, i, j), 0);
                x.mark(0, i, j, 8 * i + j + 1);
            }
        }
        due.is("cell(0, 7, 6): every item is its own", x.cell(0, 7, 6), 63);
        due.refused(x, "grid(0, 9, 1)", x.grid(0, 9, 1), OUTSIDE);
        due.refused(x, "grid(0, 1, 9)", x.grid(0, 1, 9), OUTSIDE);
        due.refused(x, "grid(0, -1, 9)", x.grid(0, -1, 9), OUTSIDE);
        due.refused(x, "grid(0, MAX, MIN)", x.grid(0, MAX, MIN), OUTSIDE);
        due.refused(x, "grid(0, -1, 1)", x.grid(0, -1, 1), SIZE);
        due.refused(x, "grid(0, 1, -1)", x.grid(0, 1, -1), SIZE);
        due.refused(x, "grid(0, 0, -1)", x.grid(0, 0, -1), SIZE);
        due.refused(x, "grid(0, MIN, MIN)", x.grid(0, MIN, MIN), SIZE);
        for (int g : NO_SECOND) {
            due.refused(x, "grid(no grid, 9, -1)", x.grid(g, 9, -1), UNKNOWN);
        }
        due.is("length(2, 0): it stays", x.length(2, 0), 8);
        due.is("cell(0, 7, 7): it stays", x.cell(0, 7, 7), 64);
        x.strike(0, 1);
        due.fine(x, "grid(0, 2, 3)", x.grid(0, 2, 3), 2);
        due.fine(x, "cell(0, 1, 2): the row is new", x.cell(0, 1, 2), 0);
        due.fine(x, "grid(0, 0, 8)", x.grid(0, 0, 8), 0);
        due.fine(x, "grid(0, 8, 8)", x.grid(0, 8, 8), 8);
        for (int i = 0; i < 8; i++) {
            for (int j = 0; j < 8; j++) {
                due.fine(x, "cell(0, i, j): new items", x.cell(0, i, j), 0);
            }
        }
        due.is("count(3)", x.count(3), 4);
    }

    // Promise 22
    private static void strike() {
        ToolRoom x = new ToolRoom();
        due.refused(x, "strike(0, -1) without a grid", x.strike(0, -1), NOTHING);
        x.grid(0, 3, 2);
        due.fine(x, "strike(0, 2)", x.strike(0, 2), 1);
        due.fine(x, "strike(0, 2)", x.strike(0, 2), 0);
        due.is("length(2, 0): a missing row counts", x.length(2, 0), 3);
        due.fine(x, "cell(0, 1, 1): the others stay", x.cell(0, 1, 1), 0);
        for (int i : new int[] {-1, 3, 7, 8, MAX, MIN}) {
            due.refused(x, "strike(0, " + i + ")", x.strike(0, i), INDEX);
        }
        for (int g : NO_SECOND) {
            due.refused(x, "strike(no grid, 0)", x.strike(g, 0), UNKNOWN);
        }
    }

    // Promises 23 and 24
    private static void markAndCell() {
        ToolRoom x = new ToolRoom();
        x.grid(0, 2, 3);
        x.grid(1, 2, 3);
        due.fine(x, "mark(0, 1, 2, MAX)", x.mark(0, 1, 2, MAX), 1);
        due.fine(x, "mark(0, 0, 0, -4)", x.mark(0, 0, 0, -4), 1);
        due.fine(x, "cell(0, 1, 2)", x.cell(0, 1, 2), MAX);
        due.fine(x, "cell(0, 0, 0)", x.cell(0, 0, 0), -4);
        due.fine(x, "cell(0, 0, 2)", x.cell(0, 0, 2), 0);
        due.fine(x, "cell(1, 1, 2)", x.cell(1, 1, 2), 0);
    }

    private static void cellRefused() {
        ToolRoom x = new ToolRoom();
        bothRefused(x, 0, 9, 9, NOTHING);
        x.grid(0, 3, 2);
        x.strike(0, 1);
        for (int i : new int[] {-1, 3, 7, 8, MAX, MIN}) {
            bothRefused(x, 0, i, 9, INDEX);
        }
        bothRefused(x, 0, 1, 0, NOTHING);
        bothRefused(x, 0, 1, 9, NOTHING);
        for (int j : new int[] {-1, 2, 7, 8, MAX, MIN}) {
            bothRefused(x, 0, 0, j, INDEX);
        }
        for (int g : NO_SECOND) {
            bothRefused(x, g, 0, 0, UNKNOWN);
        }
        x.lose(2, 0);
        bothRefused(x, 0, 0, 0, NOTHING);
        due.is("count(1)", x.count(1), 8);
        due.is("count(2)", x.count(2), 24);
    }

    private static void bothRefused(ToolRoom x, int g, int i, int j, int code) {
        String at = "(" + g + ", " + i + ", " + j + ")";
        due.refused(x, "mark" + at, x.mark(g, i, j, 5), code);
        due.zero(x, "cell" + at, x.cell(g, i, j), code);
    }
}
