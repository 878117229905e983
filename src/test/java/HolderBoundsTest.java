/**
 * The boundary cases of promises 13 to 24, and of what the terms say of trays, racks and
 * grids: one method for each sentence that names one, with the sentence above it.
 */
public final class HolderBoundsTest {
    private static final int NONE = -1, UNKNOWN = -2, OUTSIDE = -3;
    private static final int NOTHING = -11, INDEX = -12, SIZE = -13, CAST = -14, STORE = -15;
    private static final int MAX = Integer.MAX_VALUE, MIN = Integer.MIN_VALUE;
    private static final int[] INTS = {MIN, -1, 0, 1, MAX}, NO_HOOKS = {MIN, -1, 10, MAX};
    // Of four (trays, racks), of three (whats, sorts) and of two (grids) those that there are not.
    private static final int[] NO_FOURTH = {MIN, -1, 4, MAX}, NO_THIRD = {MIN, -1, 3, MAX}, NO_SECOND = {MIN, -1, 2, MAX};
    private static final int TRAY = 0, RACK = 1, GRID = 2, HAMMER = 0, BLADE = 1, GAUGE = 3, EMPTY = 5;
    // Which kinds (0 .. 3) are of which sort (0 .. 2).
    private static final boolean[][] IS_OF_SORT =
        {{true, true, true, true}, {false, true, true, false}, {false, false, false, true}};
    private static final Due due = new Due("HolderBoundsTest");
    private static final Twins twins = new Twins(due, Twins::furnish);

    public static void main(String[] args) {
        tray();
        lose();
        putAndGet();
        length();
        rack();
        lay();
        fetch();
        grid();
        strike();
        markAndCell();
        due.end();
    }

    private static void tray() {
        trayLeastAndMost();
        trayIsNew();
        trayUnknown();
        trayOutside();
        traySize();
        trayUnknownAheadOfTheRest();
    }

    private static void lose() {
        loseTheLastOnes();
        loseTwice();
        loseUnknown();
        loseOutside();
        loseOutsideAheadOfUnknown();
    }

    private static void putAndGet() {
        putLeastAndMost();
        putChangesOneItem();
        putUnknown();
        putNothing();
        putIndex();
        getLeastAndMost();
        getUnknown();
        getNothing();
        getIndex();
    }

    private static void length() {
        lengthLeastAndMost();
        lengthOutside();
        lengthOutsideAheadOfUnknown();
        lengthUnknown();
        lengthNothing();
    }

    private static void rack() {
        rackLeastAndMost();
        rackIsNew();
        rackUnknown();
        rackOutsideSort();
        rackOutsidePlaces();
        rackSize();
        rackUnknownAheadOfTheRest();
        rackOutsideAheadOfSize();
    }

    private static void lay() {
        layLeastAndMost();
        layChangesOnePlace();
        layNothing();
        layUnknownRack();
        layUnknownHook();
        layNoRack();
        layIndex();
        layStore();
        layNoRackAheadOfIndex();
        layIndexAheadOfStore();
    }

    private static void fetch() {
        fetchLeastAndMost();
        fetchStaysThere();
        fetchNothingAsAny();
        fetchUnknownRack();
        fetchUnknownHook();
        fetchOutside();
        fetchUnknownAheadOfOutside();
        fetchOutsideAheadOfFailures();
        fetchNoRack();
        fetchIndex();
        fetchCast();
    }

    private static void grid() {
        gridLeastAndMost();
        gridIsNew();
        gridUnknown();
        gridOutside();
        gridSize();
        gridUnknownAheadOfTheRest();
        gridOutsideAheadOfSize();
    }

    private static void strike() {
        strikeLeastAndMost();
        strikeChangesOneRow();
        strikeTwice();
        strikeUnknown();
        strikeNothing();
        strikeIndex();
    }

    private static void markAndCell() {
        markLeastAndMost();
        markChangesOneItem();
        markValues();
        cellUnknown();
        cellNoGrid();
        cellIndexOfRow();
        cellNoRow();
        cellIndexInRow();
        cellZeroIsNoRefusal();
    }

    private static String named(String call, int... arguments) {
        String list = java.util.Arrays.toString(arguments);
        return call + "(" + list.substring(1, list.length() - 1) + ")";
    }

    private static ToolRoom withEachKind() {
        ToolRoom x = new ToolRoom();
        for (int kind = 0; kind <= 3; kind++) {
            x.tool(kind, kind);
        }
        return x;
    }

    // ---- Promise 13: tray

    // "A TRAY is a new row of n ints: n." "OUTSIDE: n above 20" "New items are 0"
    private static void trayLeastAndMost() {
        for (int t : new int[] {0, 3}) {
            for (int n : new int[] {0, 1, 19, 20}) {
                ToolRoom x = new ToolRoom();
                due.fine(x, named("tray", t, n), x.tray(t, n), n);
                due.fine(x, named("length", TRAY, t), x.length(TRAY, t), n);
                for (int i = 0; i < n; i++) {
                    due.fine(x, named("get", t, i), x.get(t, i), 0);
                }
                due.zero(x, named("get", t, n), x.get(t, n), INDEX);
                due.refused(x, named("length", TRAY, 3 - t), x.length(TRAY, 3 - t), NOTHING);
            }
        }
    }

    // "a new row": what the old one held is gone, whichever is longer
    private static void trayIsNew() {
        for (int n : new int[] {0, 1, 10, 20}) {
            ToolRoom x = new ToolRoom();
            x.tray(2, 10);
            for (int i = 0; i < 10; i++) {
                x.put(2, i, i + 1);
            }
            due.fine(x, named("tray", 2, n), x.tray(2, n), n);
            due.fine(x, "tray(2, 20)", x.tray(2, 20), 20);
            for (int i = 0; i < 20; i++) {
                due.fine(x, named("get", 2, i), x.get(2, i), 0);
            }
        }
        twins.does("tray(0, 3)", x -> x.tray(0, 3), 3, x -> {
            x.lose(TRAY, 0);
            x.tray(0, 3);
        });
    }

    // "UNKNOWN"
    private static void trayUnknown() {
        for (int t : NO_FOURTH) {
            for (int n : new int[] {0, 20}) {
                twins.refused(named("tray", t, n), x -> x.tray(t, n), UNKNOWN);
            }
        }
    }

    // "OUTSIDE: n above 20" "(It stays as it is, when that fails.)"
    private static void trayOutside() {
        for (int n : new int[] {21, MAX}) {
            for (int t = 0; t <= 3; t++) {
                int any = t;
                twins.refused(named("tray", t, n), x -> x.tray(any, n), OUTSIDE);
            }
        }
    }

    // "SIZE. (It stays as it is, when that fails.)"
    private static void traySize() {
        for (int n : new int[] {-1, MIN}) {
            for (int t = 0; t <= 3; t++) {
                int any = t;
                twins.refused(named("tray", t, n), x -> x.tray(any, n), SIZE);
            }
        }
    }

    private static void trayUnknownAheadOfTheRest() {
        for (int t : NO_FOURTH) {
            for (int n : new int[] {MIN, -1, 21, MAX}) {
                twins.refused(named("tray", t, n), x -> x.tray(t, n), UNKNOWN);
            }
        }
    }

    // ---- Promise 14: lose

    // "A TRAY (what = 0), a RACK (1), a GRID (2) is missing": that one alone
    private static void loseTheLastOnes() {
        int[] lasts = {3, 3, 1};
        for (int what = 0; what <= 2; what++) {
            for (int k : new int[] {0, lasts[what]}) {
                ToolRoom x = new ToolRoom();
                makeAll(x);
                due.fine(x, named("lose", what, k), x.lose(what, k), 1);
                for (int other = 0; other <= 2; other++) {
                    for (int j = 0; j <= lasts[other]; j++) {
                        boolean isLost = other == what && j == k;
                        due.is(named("length", other, j), x.length(other, j), isLost ? NOTHING : 1);
                    }
                }
            }
        }
    }

    private static void makeAll(ToolRoom x) {
        for (int k = 0; k <= 3; k++) {
            x.tray(k, 1);
            x.rack(k, 0, 1);
        }
        x.grid(0, 1, 1);
        x.grid(1, 1, 1);
    }

    // "1; 0: it was."
    private static void loseTwice() {
        twins.tells("lose(0, 2)", x -> x.lose(TRAY, 2), 0);
        twins.tells("lose(1, 3)", x -> x.lose(RACK, 3), 0);
        twins.tells("lose(2, 1)", x -> x.lose(GRID, 1), 0);
        int[] empty = {1, 2, 1};
        for (int what = 0; what <= 2; what++) {
            ToolRoom x = new ToolRoom();
            Twins.furnish(x);
            x.grid(1, 0, 0);
            due.fine(x, named("lose", what, empty[what]), x.lose(what, empty[what]), 1);
            due.fine(x, named("lose", what, empty[what]), x.lose(what, empty[what]), 0);
        }
    }

    // "UNKNOWN"
    private static void loseUnknown() {
        for (int k : NO_FOURTH) {
            twins.refused(named("lose", TRAY, k), x -> x.lose(TRAY, k), UNKNOWN);
            twins.refused(named("lose", RACK, k), x -> x.lose(RACK, k), UNKNOWN);
            twins.refused(named("lose", GRID, k), x -> x.lose(GRID, k), UNKNOWN);
        }
        twins.refused("lose(2, 2)", x -> x.lose(GRID, 2), UNKNOWN);
        twins.refused("lose(2, 3)", x -> x.lose(GRID, 3), UNKNOWN);
    }

    // "OUTSIDE: what"
    private static void loseOutside() {
        for (int what : NO_THIRD) {
            for (int k : new int[] {0, 1, 3}) {
                twins.refused(named("lose", what, k), x -> x.lose(what, k), OUTSIDE);
            }
        }
    }

    // "(ahead of it)"
    private static void loseOutsideAheadOfUnknown() {
        for (int what : NO_THIRD) {
            for (int k : NO_FOURTH) {
                twins.refused(named("lose", what, k), x -> x.lose(what, k), OUTSIDE);
            }
        }
    }

    // ---- Promise 15: put

    // "Item i becomes v: 1."
    private static void putLeastAndMost() {
        for (int v : INTS) {
            ToolRoom x = new ToolRoom();
            x.tray(3, 20);
            x.tray(0, 20);
            due.fine(x, named("put", 3, 0, v), x.put(3, 0, v), 1);
            due.fine(x, named("put", 3, 19, v), x.put(3, 19, v), 1);
            for (int i = 0; i < 20; i++) {
                due.fine(x, named("get", 3, i), x.get(3, i), i == 0 || i == 19 ? v : 0);
                due.fine(x, named("get", 0, i), x.get(0, i), 0);
            }
        }
    }

    private static void putChangesOneItem() {
        twins.does("put(0, 2, 9)", x -> x.put(0, 2, 9), 1, x -> {
            x.tray(0, 3);
            x.put(0, 0, 31);
            x.put(0, 1, 32);
            x.put(0, 2, 9);
        });
    }

    // "UNKNOWN"
    private static void putUnknown() {
        for (int t : NO_FOURTH) {
            for (int i : new int[] {MIN, -1, 0, MAX}) {
                twins.refused(named("put", t, i, 9), x -> x.put(t, i, 9), UNKNOWN);
            }
        }
    }

    // "NOTHING", ahead of INDEX
    private static void putNothing() {
        for (int i : new int[] {MIN, -1, 0, 20, MAX}) {
            twins.refused(named("put", 2, i, 9), x -> x.put(2, i, 9), NOTHING);
        }
        twins.after(x -> x.lose(TRAY, 0)).refused("put(0, 0, 9) behind lose", x -> x.put(0, 0, 9), NOTHING);
    }

    // "INDEX"
    private static void putIndex() {
        for (int i : new int[] {MIN, -1, 3, 20, MAX}) {
            twins.refused(named("put", 0, i, 9), x -> x.put(0, i, 9), INDEX);
        }
        for (int i : new int[] {MIN, -1, 0, MAX}) {
            twins.refused(named("put", 1, i, 9), x -> x.put(1, i, 9), INDEX);
        }
        Twins longest = twins.after(x -> x.tray(3, 20));
        longest.refused("put(3, 20, 9) of 20", x -> x.put(3, 20, 9), INDEX);
        twins.after(x -> x.tray(0, 2)).refused("put(0, 2, 9) of 2, once 3", x -> x.put(0, 2, 9), INDEX);
    }

    // ---- Promise 16: get

    // "Item i."
    private static void getLeastAndMost() {
        twins.tells("get(0, 0)", x -> x.get(0, 0), 31);
        twins.tells("get(0, 2)", x -> x.get(0, 2), 33);
        twins.tells("get(3, 8): 0 is no refusal", x -> x.get(3, 8), 0);
        for (int v : INTS) {
            twins.after(x -> x.put(3, 8, v)).tells("get(3, 8)", x -> x.get(3, 8), v);
        }
    }

    // "0 if that is refused (why()): UNKNOWN"
    private static void getUnknown() {
        for (int t : NO_FOURTH) {
            for (int i : new int[] {MIN, -1, 0, MAX}) {
                twins.zero(named("get", t, i), x -> x.get(t, i), UNKNOWN);
            }
        }
    }

    // "NOTHING", ahead of INDEX
    private static void getNothing() {
        for (int i : new int[] {MIN, -1, 0, 20, MAX}) {
            twins.zero(named("get", 2, i), x -> x.get(2, i), NOTHING);
        }
        twins.after(x -> x.lose(TRAY, 0)).zero("get(0, 0) behind lose", x -> x.get(0, 0), NOTHING);
    }

    // "INDEX"
    private static void getIndex() {
        for (int i : new int[] {MIN, -1, 3, 20, MAX}) {
            twins.zero(named("get", 0, i), x -> x.get(0, i), INDEX);
        }
        for (int i : new int[] {MIN, -1, 0, MAX}) {
            twins.zero(named("get", 1, i), x -> x.get(1, i), INDEX);
        }
        twins.after(x -> x.tray(3, 20)).zero("get(3, 20) of 20", x -> x.get(3, 20), INDEX);
        twins.after(x -> x.tray(0, 2)).zero("get(0, 2) of 2, once 3", x -> x.get(0, 2), INDEX);
    }

    // ---- Promise 17: length

    // "How many items a TRAY (what = 0) has, places a RACK (1), rows a GRID (2)."
    private static void lengthLeastAndMost() {
        int[] mosts = {20, 10, 8};
        int[] lasts = {3, 3, 1};
        for (int what = 0; what <= 2; what++) {
            for (int k : new int[] {0, lasts[what]}) {
                for (int n : new int[] {0, 1, mosts[what]}) {
                    ToolRoom x = new ToolRoom();
                    make(x, what, k, n);
                    due.fine(x, named("length", what, k) + " of " + n, x.length(what, k), n);
                }
            }
        }
        twins.tells("length(2, 0): a missing row counts", x -> x.length(GRID, 0), 3);
        twins.after(x -> x.grid(1, 8, 0)).tells("length(2, 1): rows of none count", x -> x.length(GRID, 1), 8);
    }

    private static void make(ToolRoom x, int what, int k, int n) {
        if (what == TRAY) {
            x.tray(k, n);
        } else if (what == RACK) {
            x.rack(k, 0, n);
        } else {
            x.grid(k, n, 3);
        }
    }

    // "OUTSIDE: what"
    private static void lengthOutside() {
        for (int what : NO_THIRD) {
            for (int k : new int[] {0, 1, 3}) {
                twins.refused(named("length", what, k), x -> x.length(what, k), OUTSIDE);
            }
        }
    }

    // "(ahead)"
    private static void lengthOutsideAheadOfUnknown() {
        for (int what : NO_THIRD) {
            for (int k : NO_FOURTH) {
                twins.refused(named("length", what, k), x -> x.length(what, k), OUTSIDE);
            }
        }
    }

    // "UNKNOWN"
    private static void lengthUnknown() {
        for (int k : NO_FOURTH) {
            for (int what = 0; what <= 2; what++) {
                int any = what;
                twins.refused(named("length", what, k), x -> x.length(any, k), UNKNOWN);
            }
        }
        twins.refused("length(2, 2)", x -> x.length(GRID, 2), UNKNOWN);
        twins.refused("length(2, 3)", x -> x.length(GRID, 3), UNKNOWN);
    }

    // "NOTHING"
    private static void lengthNothing() {
        twins.refused("length(0, 2)", x -> x.length(TRAY, 2), NOTHING);
        twins.refused("length(1, 3)", x -> x.length(RACK, 3), NOTHING);
        twins.refused("length(2, 1)", x -> x.length(GRID, 1), NOTHING);
        for (int what = 0; what <= 2; what++) {
            int any = what;
            twins.after(x -> x.lose(any, 0)).refused(named("length", what, 0) + " behind lose",
                x -> x.length(any, 0), NOTHING);
        }
    }

    // ---- Promise 18: rack

    // "A RACK is a new one of a SORT with n places: n." "new places empty"
    private static void rackLeastAndMost() {
        for (int r : new int[] {0, 3}) {
            for (int sort = 0; sort <= 2; sort++) {
                for (int n : new int[] {0, 1, 9, 10}) {
                    ToolRoom x = withEachKind();
                    due.fine(x, named("rack", r, sort, n), x.rack(r, sort, n), n);
                    due.fine(x, named("length", RACK, r), x.length(RACK, r), n);
                    placesAreEmpty(x, r, n);
                    due.refused(x, named("lay", r, n, 0), x.lay(r, n, 0), INDEX);
                    due.refused(x, named("length", RACK, 3 - r), x.length(RACK, 3 - r), NOTHING);
                }
            }
        }
    }

    private static void placesAreEmpty(ToolRoom x, int r, int n) {
        for (int i = 0; i < n; i++) {
            x.tool(9, HAMMER);
            due.fine(x, named("fetch", r, i, 0, 9), x.fetch(r, i, 0, 9), 1);
            due.fine(x, named("place is empty:", r, i), x.kind(9), NONE);
        }
    }

    // "a new one": what the old one held, and its sort, are gone, whichever is longer
    private static void rackIsNew() {
        for (int n : new int[] {0, 1, 5, 10}) {
            ToolRoom x = withEachKind();
            x.rack(2, 0, 5);
            for (int i = 0; i < 5; i++) {
                x.lay(2, i, i % 4);
            }
            due.fine(x, named("rack", 2, 2, n), x.rack(2, 2, n), n);
            due.fine(x, "rack(2, 1, 10)", x.rack(2, 1, 10), 10);
            placesAreEmpty(x, 2, 10);
            due.refused(x, "lay(2, 0, 0)", x.lay(2, 0, HAMMER), STORE);
            due.refused(x, "lay(2, 0, 3)", x.lay(2, 0, GAUGE), STORE);
            due.fine(x, "lay(2, 0, 1)", x.lay(2, 0, BLADE), 1);
        }
        twins.does("rack(0, 0, 2)", x -> x.rack(0, 0, 2), 2, x -> {
            x.lay(0, 0, EMPTY);
            x.lay(0, 1, EMPTY);
        });
    }

    // "UNKNOWN"
    private static void rackUnknown() {
        for (int r : NO_FOURTH) {
            for (int sort = 0; sort <= 2; sort++) {
                int any = sort;
                twins.refused(named("rack", r, sort, 1), x -> x.rack(r, any, 1), UNKNOWN);
            }
        }
    }

    // "OUTSIDE: SORT"; the rack stays
    private static void rackOutsideSort() {
        for (int sort : NO_THIRD) {
            for (int r = 0; r <= 3; r++) {
                int any = r;
                twins.refused(named("rack", r, sort, 2), x -> x.rack(any, sort, 2), OUTSIDE);
            }
        }
    }

    // "OUTSIDE: .. n above 10"; the rack stays
    private static void rackOutsidePlaces() {
        for (int n : new int[] {11, MAX}) {
            for (int r = 0; r <= 3; r++) {
                int any = r;
                twins.refused(named("rack", r, 1, n), x -> x.rack(any, 1, n), OUTSIDE);
                twins.refused(named("rack", r, 3, n), x -> x.rack(any, 3, n), OUTSIDE);
            }
        }
    }

    // "SIZE"; the rack stays
    private static void rackSize() {
        for (int n : new int[] {-1, MIN}) {
            for (int r = 0; r <= 3; r++) {
                for (int sort = 0; sort <= 2; sort++) {
                    int anyRack = r;
                    int anySort = sort;
                    twins.refused(named("rack", r, sort, n), x -> x.rack(anyRack, anySort, n), SIZE);
                }
            }
        }
    }

    private static void rackUnknownAheadOfTheRest() {
        for (int r : NO_FOURTH) {
            for (int n : new int[] {MIN, -1, 1, 11, MAX}) {
                twins.refused(named("rack", r, 3, n), x -> x.rack(r, 3, n), UNKNOWN);
                twins.refused(named("rack", r, 0, n), x -> x.rack(r, 0, n), UNKNOWN);
            }
        }
    }

    // "ahead of FAILURES"
    private static void rackOutsideAheadOfSize() {
        for (int sort : NO_THIRD) {
            for (int n : new int[] {-1, MIN}) {
                twins.refused(named("rack", 0, sort, n), x -> x.rack(0, sort, n), OUTSIDE);
            }
        }
    }

    // ---- Promise 19: lay

    // "Place i of a RACK gets what a HOOK holds ..: 1."
    private static void layLeastAndMost() {
        for (int r : new int[] {0, 3}) {
            for (int i : new int[] {0, 9}) {
                for (int hook : new int[] {0, 9}) {
                    ToolRoom x = new ToolRoom();
                    x.tool(hook, GAUGE);
                    x.rack(r, 2, 10);
                    due.fine(x, named("lay", r, i, hook), x.lay(r, i, hook), 1);
                    due.fine(x, "the hook keeps it", x.kind(hook), GAUGE);
                    for (int j = 0; j < 10; j++) {
                        x.fetch(r, j, 0, 4);
                        due.fine(x, named("place", j), x.kind(4), j == i ? GAUGE : NONE);
                    }
                }
            }
        }
        ToolRoom x = withEachKind();
        x.rack(1, 1, 2);
        due.fine(x, "lay(1, 0, 1)", x.lay(1, 0, BLADE), 1);
        due.fine(x, "lay(1, 1, 1): the same at two places", x.lay(1, 1, BLADE), 1);
        x.hone(BLADE, 4);
        x.fetch(1, 1, 1, 8);
        due.fine(x, "of(8, 3)", x.of(8, 3), 4);
    }

    private static void layChangesOnePlace() {
        twins.does("lay(0, 1, 4)", x -> x.lay(0, 1, 4), 1, x -> {
            x.rack(0, 0, 2);
            x.lay(0, 0, 0);
            x.lay(0, 1, 1);
        });
        twins.does("lay(0, 0, 5)", x -> x.lay(0, 0, EMPTY), 1, x -> x.rack(0, 0, 2));
    }

    // "(nothing: it is empty)", whatever the sort
    private static void layNothing() {
        for (int sort = 0; sort <= 2; sort++) {
            ToolRoom x = withEachKind();
            x.rack(0, sort, 1);
            due.fine(x, named("lay", 0, 0, EMPTY), x.lay(0, 0, EMPTY), 1);
            x.lay(0, 0, sort == 2 ? GAUGE : BLADE);
            due.fine(x, named("lay", 0, 0, EMPTY), x.lay(0, 0, EMPTY), 1);
            x.fetch(0, 0, 0, 0);
            due.fine(x, "kind(0)", x.kind(0), NONE);
        }
    }

    // "UNKNOWN", ahead of all FAILURES
    private static void layUnknownRack() {
        for (int r : NO_FOURTH) {
            twins.refused(named("lay", r, 0, 0), x -> x.lay(r, 0, 0), UNKNOWN);
            twins.refused(named("lay", r, -1, 0), x -> x.lay(r, -1, 0), UNKNOWN);
            twins.refused(named("lay", r, 0, EMPTY), x -> x.lay(r, 0, EMPTY), UNKNOWN);
            twins.refused(named("lay", r, 0, 10), x -> x.lay(r, 0, 10), UNKNOWN);
        }
    }

    private static void layUnknownHook() {
        for (int hook : NO_HOOKS) {
            for (int r = 0; r <= 3; r++) {
                int any = r;
                twins.refused(named("lay", r, 0, hook), x -> x.lay(any, 0, hook), UNKNOWN);
                twins.refused(named("lay", r, 10, hook), x -> x.lay(any, 10, hook), UNKNOWN);
            }
        }
    }

    // "NOTHING"
    private static void layNoRack() {
        for (int hook : new int[] {0, EMPTY, 9}) {
            twins.refused(named("lay", 3, 0, hook), x -> x.lay(3, 0, hook), NOTHING);
            twins.after(x -> x.lose(RACK, 0)).refused(named("lay", 0, 0, hook) + " behind lose",
                x -> x.lay(0, 0, hook), NOTHING);
        }
    }

    // "INDEX"
    private static void layIndex() {
        for (int i : new int[] {MIN, -1, 2, 10, MAX}) {
            twins.refused(named("lay", 0, i, 1), x -> x.lay(0, i, 1), INDEX);
            twins.refused(named("lay", 0, i, EMPTY), x -> x.lay(0, i, EMPTY), INDEX);
        }
        for (int i : new int[] {MIN, -1, 0, MAX}) {
            twins.refused(named("lay", 2, i, GAUGE), x -> x.lay(2, i, GAUGE), INDEX);
        }
        twins.after(x -> x.rack(0, 0, 10)).refused("lay(0, 10, 1) of 10", x -> x.lay(0, 10, 1), INDEX);
        twins.after(x -> x.rack(0, 0, 1)).refused("lay(0, 1, 1) of 1, once 2", x -> x.lay(0, 1, 1), INDEX);
    }

    // "STORE": a TOOL put where it does not belong; the place keeps what it has
    private static void layStore() {
        for (int sort = 0; sort <= 2; sort++) {
            for (int kind = 0; kind <= 3; kind++) {
                int anySort = sort;
                int anyKind = kind;
                Twins sorted = twins.after(x -> {
                    x.rack(0, anySort, 2);
                    x.lay(0, 1, anySort == 2 ? 9 : 4);
                    x.tool(8, anyKind);
                });
                for (int i = 0; i <= 1; i++) {
                    int any = i;
                    String name = named("lay", 0, i, 8) + ": kind " + kind + " into sort " + sort;
                    if (IS_OF_SORT[sort][kind]) {
                        ToolRoom x = new ToolRoom();
                        x.tool(8, kind);
                        x.rack(0, sort, 2);
                        due.fine(x, name, x.lay(0, i, 8), 1);
                    } else {
                        sorted.refused(name, x -> x.lay(0, any, 8), STORE);
                    }
                }
            }
        }
    }

    private static void layNoRackAheadOfIndex() {
        for (int i : new int[] {MIN, -1, 10, MAX}) {
            twins.refused(named("lay", 3, i, 0), x -> x.lay(3, i, 0), NOTHING);
            twins.refused(named("lay", 3, i, EMPTY), x -> x.lay(3, i, EMPTY), NOTHING);
        }
    }

    private static void layIndexAheadOfStore() {
        for (int i : new int[] {MIN, -1, 2, 10, MAX}) {
            twins.refused(named("lay", 1, i, HAMMER), x -> x.lay(1, i, HAMMER), INDEX);
        }
        twins.refused("lay(2, 0, 0)", x -> x.lay(2, 0, HAMMER), INDEX);
    }

    // ---- Promise 20: fetch

    // "A HOOK gets what is at place i of a RACK .., meant as a TOOL of a SORT ..: 1."
    private static void fetchLeastAndMost() {
        for (int r : new int[] {0, 3}) {
            for (int i : new int[] {0, 9}) {
                for (int hook : new int[] {0, 9}) {
                    ToolRoom x = new ToolRoom();
                    x.tool(4, GAUGE);
                    x.rack(r, 2, 10);
                    x.lay(r, i, 4);
                    due.fine(x, named("fetch", r, i, 2, hook), x.fetch(r, i, 2, hook), 1);
                    x.use(hook, 1);
                    due.fine(x, "it is the same one", x.of(4, 1), 1);
                    due.fine(x, "no other hook gets it", x.kind(5), NONE);
                }
            }
        }
    }

    // "(it stays there)"
    private static void fetchStaysThere() {
        twins.does("fetch(1, 0, 1, 5)", x -> x.fetch(1, 0, 1, EMPTY), 1, x -> x.hang(EMPTY, 2));
        twins.does("fetch(0, 0, 0, 1)", x -> x.fetch(0, 0, 0, 1), 1, x -> x.hang(1, 0));
        twins.tells("fetch(0, 0, 0, 0): the hook has it already", x -> x.fetch(0, 0, 0, 0), 1);
    }

    // "(nothing may be meant as any)"
    private static void fetchNothingAsAny() {
        for (int sort = 0; sort <= 2; sort++) {
            int any = sort;
            twins.does(named("fetch", 0, 1, sort, 0), x -> x.fetch(0, 1, any, 0), 1, x -> x.unhang(0));
            twins.does(named("fetch", 1, 1, sort, 9), x -> x.fetch(1, 1, any, 9), 1, x -> x.unhang(9));
            twins.tells(named("fetch", 0, 1, sort, EMPTY), x -> x.fetch(0, 1, any, EMPTY), 1);
        }
    }

    // "UNKNOWN", ahead of all FAILURES
    private static void fetchUnknownRack() {
        for (int r : NO_FOURTH) {
            twins.refused(named("fetch", r, 0, 0, 0), x -> x.fetch(r, 0, 0, 0), UNKNOWN);
            twins.refused(named("fetch", r, -1, 2, EMPTY), x -> x.fetch(r, -1, 2, EMPTY), UNKNOWN);
            twins.refused(named("fetch", r, 0, 0, 10), x -> x.fetch(r, 0, 0, 10), UNKNOWN);
        }
    }

    private static void fetchUnknownHook() {
        for (int hook : NO_HOOKS) {
            for (int r = 0; r <= 3; r++) {
                int any = r;
                twins.refused(named("fetch", r, 0, 2, hook), x -> x.fetch(any, 0, 2, hook), UNKNOWN);
                twins.refused(named("fetch", r, 10, 2, hook), x -> x.fetch(any, 10, 2, hook), UNKNOWN);
            }
        }
    }

    // "OUTSIDE: SORT"
    private static void fetchOutside() {
        for (int sort : NO_THIRD) {
            twins.refused(named("fetch", 0, 0, sort, EMPTY), x -> x.fetch(0, 0, sort, EMPTY), OUTSIDE);
            twins.refused(named("fetch", 0, 1, sort, 0), x -> x.fetch(0, 1, sort, 0), OUTSIDE);
        }
    }

    private static void fetchUnknownAheadOfOutside() {
        for (int sort : NO_THIRD) {
            for (int no : NO_FOURTH) {
                twins.refused(named("fetch", no, 0, sort, 0), x -> x.fetch(no, 0, sort, 0), UNKNOWN);
            }
            for (int no : NO_HOOKS) {
                twins.refused(named("fetch", 0, 0, sort, no), x -> x.fetch(0, 0, sort, no), UNKNOWN);
            }
        }
    }

    // "ahead of FAILURES" (no RACK, no such place)
    private static void fetchOutsideAheadOfFailures() {
        for (int sort : NO_THIRD) {
            twins.refused(named("fetch", 3, 0, sort, 0), x -> x.fetch(3, 0, sort, 0), OUTSIDE);
            twins.refused(named("fetch", 0, 2, sort, 0), x -> x.fetch(0, 2, sort, 0), OUTSIDE);
            twins.refused(named("fetch", 2, 0, sort, 0), x -> x.fetch(2, 0, sort, 0), OUTSIDE);
        }
    }

    // "NOTHING", ahead of INDEX
    private static void fetchNoRack() {
        for (int i : new int[] {MIN, -1, 0, 10, MAX}) {
            twins.refused(named("fetch", 3, i, 1, 0), x -> x.fetch(3, i, 1, 0), NOTHING);
            twins.after(x -> x.lose(RACK, 0)).refused(named("fetch", 0, i, 1, 0) + " behind lose",
                x -> x.fetch(0, i, 1, 0), NOTHING);
        }
    }

    // "INDEX"
    private static void fetchIndex() {
        for (int i : new int[] {MIN, -1, 2, 10, MAX}) {
            for (int sort = 0; sort <= 2; sort++) {
                int any = sort;
                twins.refused(named("fetch", 0, i, sort, 0), x -> x.fetch(0, i, any, 0), INDEX);
            }
        }
        for (int i : new int[] {MIN, -1, 0, MAX}) {
            twins.refused(named("fetch", 2, i, 2, 0), x -> x.fetch(2, i, 2, 0), INDEX);
        }
        twins.after(x -> x.rack(0, 0, 10)).refused("fetch(0, 10, 0, 0) of 10", x -> x.fetch(0, 10, 0, 0), INDEX);
        twins.after(x -> x.rack(0, 0, 1)).refused("fetch(0, 1, 0, 0) of 1, once 2", x -> x.fetch(0, 1, 0, 0), INDEX);
    }

    // "CAST": a TOOL meant as what it is not; the HOOK keeps what it has
    private static void fetchCast() {
        for (int sort = 0; sort <= 2; sort++) {
            for (int kind = 0; kind <= 3; kind++) {
                int anySort = sort;
                int anyKind = kind;
                Twins laid = twins.after(x -> {
                    x.tool(8, anyKind);
                    x.lay(0, 1, 8);
                });
                for (int hook : new int[] {0, EMPTY}) {
                    String name = named("fetch", 0, 1, sort, hook) + " of kind " + kind;
                    Twins.Call call = x -> x.fetch(0, 1, anySort, hook);
                    if (IS_OF_SORT[sort][kind]) {
                        laid.does(name, call, 1, x -> x.hang(hook, 8));
                    } else {
                        laid.refused(name, call, CAST);
                    }
                }
            }
        }
    }

    // ---- Promise 21: grid

    // "A GRID is n rows of m ints each: n." "New items are 0"
    private static void gridLeastAndMost() {
        for (int g : new int[] {0, 1}) {
            for (int n : new int[] {0, 1, 7, 8}) {
                for (int m : new int[] {0, 1, 7, 8}) {
                    ToolRoom x = new ToolRoom();
                    due.fine(x, named("grid", g, n, m), x.grid(g, n, m), n);
                    due.fine(x, named("length", GRID, g), x.length(GRID, g), n);
                    cellsAreZero(x, g, n, m);
                    due.zero(x, named("cell", g, n, 0), x.cell(g, n, 0), INDEX);
                    due.refused(x, named("length", GRID, 1 - g), x.length(GRID, 1 - g), NOTHING);
                }
            }
        }
    }

    private static void cellsAreZero(ToolRoom x, int g, int n, int m) {
        for (int i = 0; i < n; i++) {
            for (int j = 0; j < m; j++) {
                due.fine(x, named("cell", g, i, j), x.cell(g, i, j), 0);
            }
            due.zero(x, named("cell", g, i, m), x.cell(g, i, m), INDEX);
        }
    }

    // What the old one held, and which of its rows were missing, is gone, whichever is larger.
    private static void gridIsNew() {
        for (int n : new int[] {0, 2, 4, 8}) {
            for (int m : new int[] {0, 2, 4, 8}) {
                ToolRoom x = new ToolRoom();
                x.grid(1, 4, 4);
                for (int i = 0; i < 4; i++) {
                    for (int j = 0; j < 4; j++) {
                        x.mark(1, i, j, 1 + 4 * i + j);
                    }
                }
                x.strike(1, 0);
                x.strike(1, 3);
                due.fine(x, named("grid", 1, n, m), x.grid(1, n, m), n);
                cellsAreZero(x, 1, n, m);
                due.fine(x, "grid(1, 8, 8)", x.grid(1, 8, 8), 8);
                cellsAreZero(x, 1, 8, 8);
            }
        }
    }

    // "UNKNOWN"
    private static void gridUnknown() {
        for (int g : NO_SECOND) {
            twins.refused(named("grid", g, 0, 0), x -> x.grid(g, 0, 0), UNKNOWN);
            twins.refused(named("grid", g, 8, 8), x -> x.grid(g, 8, 8), UNKNOWN);
        }
    }

    // "OUTSIDE: n, m above 8"; the grid stays
    private static void gridOutside() {
        for (int g = 0; g <= 1; g++) {
            for (int no : new int[] {9, MAX}) {
                int any = g;
                twins.refused(named("grid", g, no, 1), x -> x.grid(any, no, 1), OUTSIDE);
                twins.refused(named("grid", g, 1, no), x -> x.grid(any, 1, no), OUTSIDE);
                twins.refused(named("grid", g, 0, no), x -> x.grid(any, 0, no), OUTSIDE);
                twins.refused(named("grid", g, no, 0), x -> x.grid(any, no, 0), OUTSIDE);
                twins.refused(named("grid", g, no, no), x -> x.grid(any, no, no), OUTSIDE);
            }
        }
    }

    // "SIZE: n, m below 0"; the grid stays, and both below are met once
    private static void gridSize() {
        for (int g = 0; g <= 1; g++) {
            for (int no : new int[] {-1, MIN}) {
                int any = g;
                twins.refused(named("grid", g, no, 1), x -> x.grid(any, no, 1), SIZE);
                twins.refused(named("grid", g, 1, no), x -> x.grid(any, 1, no), SIZE);
                twins.refused(named("grid", g, 0, no), x -> x.grid(any, 0, no), SIZE);
                twins.refused(named("grid", g, no, 0), x -> x.grid(any, no, 0), SIZE);
                twins.refused(named("grid", g, 8, no), x -> x.grid(any, 8, no), SIZE);
                twins.refused(named("grid", g, no, 8), x -> x.grid(any, no, 8), SIZE);
                twins.refused(named("grid", g, no, no), x -> x.grid(any, no, no), SIZE);
            }
        }
    }

    private static void gridUnknownAheadOfTheRest() {
        for (int g : NO_SECOND) {
            for (int no : new int[] {MIN, -1, 9, MAX}) {
                twins.refused(named("grid", g, no, 1), x -> x.grid(g, no, 1), UNKNOWN);
                twins.refused(named("grid", g, 1, no), x -> x.grid(g, 1, no), UNKNOWN);
            }
        }
    }

    // "ahead of FAILURES"
    private static void gridOutsideAheadOfSize() {
        for (int below : new int[] {-1, MIN}) {
            for (int above : new int[] {9, MAX}) {
                twins.refused(named("grid", 0, below, above), x -> x.grid(0, below, above), OUTSIDE);
                twins.refused(named("grid", 0, above, below), x -> x.grid(0, above, below), OUTSIDE);
            }
        }
    }

    // ---- Promise 22: strike

    // "Row i of a GRID is missing: 1": that one alone
    private static void strikeLeastAndMost() {
        for (int g : new int[] {0, 1}) {
            for (int i : new int[] {0, 7}) {
                ToolRoom x = new ToolRoom();
                x.grid(0, 8, 1);
                x.grid(1, 8, 1);
                due.fine(x, named("strike", g, i), x.strike(g, i), 1);
                for (int other = 0; other <= 1; other++) {
                    for (int j = 0; j < 8; j++) {
                        boolean isMissing = other == g && j == i;
                        due.is(named("cell", other, j, 0), x.cell(other, j, 0), 0);
                        due.is(named("cell", other, j, 0) + ", why()", x.why(), isMissing ? NOTHING : 0);
                    }
                }
                due.fine(x, named("length", GRID, g), x.length(GRID, g), 8);
            }
        }
    }

    private static void strikeChangesOneRow() {
        twins.does("strike(0, 0)", x -> x.strike(0, 0), 1, x -> {
            x.grid(0, 3, 2);
            x.mark(0, 2, 0, 53);
            x.mark(0, 2, 1, 63);
            x.strike(0, 0);
            x.strike(0, 1);
        });
    }

    // "0: it was."
    private static void strikeTwice() {
        twins.tells("strike(0, 1)", x -> x.strike(0, 1), 0);
        ToolRoom x = new ToolRoom();
        x.grid(1, 1, 0);
        due.fine(x, "strike(1, 0): a row of none", x.strike(1, 0), 1);
        due.fine(x, "strike(1, 0)", x.strike(1, 0), 0);
        x.grid(1, 1, 0);
        due.fine(x, "strike(1, 0) of a new grid", x.strike(1, 0), 1);
    }

    // "UNKNOWN", ahead of FAILURES
    private static void strikeUnknown() {
        for (int g : NO_SECOND) {
            for (int i : new int[] {MIN, -1, 0, 1, MAX}) {
                twins.refused(named("strike", g, i), x -> x.strike(g, i), UNKNOWN);
            }
        }
    }

    // "NOTHING", ahead of INDEX
    private static void strikeNothing() {
        for (int i : new int[] {MIN, -1, 0, 8, MAX}) {
            twins.refused(named("strike", 1, i), x -> x.strike(1, i), NOTHING);
            twins.after(x -> x.lose(GRID, 0)).refused(named("strike", 0, i) + " behind lose",
                x -> x.strike(0, i), NOTHING);
        }
    }

    // "INDEX"
    private static void strikeIndex() {
        for (int i : new int[] {MIN, -1, 3, 8, MAX}) {
            twins.refused(named("strike", 0, i), x -> x.strike(0, i), INDEX);
        }
        twins.after(x -> x.grid(1, 0, 2)).refused("strike(1, 0) of no rows", x -> x.strike(1, 0), INDEX);
        twins.after(x -> x.grid(1, 8, 1)).refused("strike(1, 8) of 8", x -> x.strike(1, 8), INDEX);
        twins.after(x -> x.grid(0, 2, 2)).refused("strike(0, 2) of 2, once 3", x -> x.strike(0, 2), INDEX);
    }

    // ---- Promises 23 and 24: mark and cell

    // "Item j of row i of a GRID becomes v: 1": that one alone
    private static void markLeastAndMost() {
        for (int g : new int[] {0, 1}) {
            for (int i : new int[] {0, 7}) {
                for (int j : new int[] {0, 7}) {
                    ToolRoom x = new ToolRoom();
                    x.grid(0, 8, 8);
                    x.grid(1, 8, 8);
                    due.fine(x, named("mark", g, i, j, 9), x.mark(g, i, j, 9), 1);
                    onlyCellWith(x, g, i, j, 9);
                }
            }
        }
    }

    private static void onlyCellWith(ToolRoom x, int g, int i, int j, int v) {
        for (int row = 0; row < 8; row++) {
            for (int item = 0; item < 8; item++) {
                int want = row == i && item == j ? v : 0;
                due.is(named("cell", g, row, item), x.cell(g, row, item), want);
                due.is(named("cell", 1 - g, row, item), x.cell(1 - g, row, item), 0);
            }
        }
        due.is("why()", x.why(), 0);
    }

    private static void markChangesOneItem() {
        twins.does("mark(0, 2, 1, 9)", x -> x.mark(0, 2, 1, 9), 1, x -> {
            x.strike(0, 2);
            x.grid(0, 3, 2);
            x.mark(0, 0, 0, 51);
            x.mark(0, 0, 1, 61);
            x.mark(0, 2, 0, 53);
            x.mark(0, 2, 1, 9);
            x.strike(0, 1);
        });
    }

    private static void markValues() {
        for (int v : INTS) {
            ToolRoom x = new ToolRoom();
            x.grid(1, 1, 1);
            due.fine(x, named("mark", 1, 0, 0, v), x.mark(1, 0, 0, v), 1);
            due.fine(x, "cell(1, 0, 0)", x.cell(1, 0, 0), v);
        }
    }

    private static void bothRefused(Twins pair, int g, int i, int j, int code) {
        pair.refused(named("mark", g, i, j, 9), x -> x.mark(g, i, j, 9), code);
        pair.zero(named("cell", g, i, j), x -> x.cell(g, i, j), code);
    }

    // "UNKNOWN", ahead of FAILURES
    private static void cellUnknown() {
        for (int g : NO_SECOND) {
            bothRefused(twins, g, 0, 0, UNKNOWN);
            bothRefused(twins, g, -1, 0, UNKNOWN);
            bothRefused(twins, g, 1, 9, UNKNOWN);
        }
    }

    // "NOTHING (no GRID)", ahead of the rest
    private static void cellNoGrid() {
        for (int no : new int[] {MIN, -1, 0, 8, MAX}) {
            bothRefused(twins, 1, no, 0, NOTHING);
            bothRefused(twins, 1, 0, no, NOTHING);
            bothRefused(twins, 1, no, no, NOTHING);
        }
        bothRefused(twins.after(x -> x.lose(GRID, 0)), 0, 0, 0, NOTHING);
        bothRefused(twins.after(x -> x.lose(GRID, 0)), 0, 3, 0, NOTHING);
    }

    // "INDEX (i)", and with it a wrong j
    private static void cellIndexOfRow() {
        for (int i : new int[] {MIN, -1, 3, 8, MAX}) {
            for (int j : new int[] {MIN, -1, 0, 2, MAX}) {
                bothRefused(twins, 0, i, j, INDEX);
            }
        }
        bothRefused(twins.after(x -> x.grid(1, 0, 8)), 1, 0, 0, INDEX);
        bothRefused(twins.after(x -> x.grid(1, 8, 1)), 1, 8, 0, INDEX);
        bothRefused(twins.after(x -> x.grid(0, 2, 2)), 0, 2, 0, INDEX);
    }

    // "NOTHING (the row)", ahead of INDEX (j)
    private static void cellNoRow() {
        for (int j : new int[] {MIN, -1, 0, 1, 2, 8, MAX}) {
            bothRefused(twins, 0, 1, j, NOTHING);
        }
        bothRefused(twins.after(x -> x.strike(0, 0)), 0, 0, 0, NOTHING);
        bothRefused(twins.after(x -> x.strike(0, 2)), 0, 2, 1, NOTHING);
    }

    // "INDEX (j)"
    private static void cellIndexInRow() {
        for (int j : new int[] {MIN, -1, 2, 8, MAX}) {
            bothRefused(twins, 0, 0, j, INDEX);
            bothRefused(twins, 0, 2, j, INDEX);
        }
        bothRefused(twins.after(x -> x.grid(1, 8, 0)), 1, 7, 0, INDEX);
        bothRefused(twins.after(x -> x.grid(1, 1, 8)), 1, 0, 8, INDEX);
        bothRefused(twins.after(x -> x.grid(0, 3, 1)), 0, 0, 1, INDEX);
    }

    // "It; 0 if that is refused (why())"
    private static void cellZeroIsNoRefusal() {
        twins.tells("cell(0, 0, 0)", x -> x.cell(0, 0, 0), 51);
        twins.tells("cell(0, 2, 1)", x -> x.cell(0, 2, 1), 63);
        twins.after(x -> x.mark(0, 2, 1, 0)).tells("cell(0, 2, 1): 0", x -> x.cell(0, 2, 1), 0);
    }
}
