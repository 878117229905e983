/**
 * The boundary cases of promises 1 to 12, and of what the terms say of hooks and tools: one
 * method for each sentence that names one, with the sentence above it.
 */
public final class ToolBoundsTest {
    private static final int NONE = -1, UNKNOWN = -2, OUTSIDE = -3, NOTHING = -11, INDEX = -12, CAST = -14;
    private static final int MAX = Integer.MAX_VALUE, MIN = Integer.MIN_VALUE;
    private static final int[] NO_HOOKS = {MIN, -1, 10, MAX}, NO_TRAYS = {MIN, -1, 4, MAX}, INTS = {MIN, -1, 0, 1, MAX};
    private static final int HAMMER = 0, BLADE = 1, FILE = 2, GAUGE = 3, EMPTY = 5;
    private static final int NAME = 0, WEAR = 1, WEIGHT = 2, EDGE = 3;
    private static final Due due = new Due("ToolBoundsTest");
    private static final Twins twins = new Twins(due, Twins::furnish);

    public static void main(String[] args) {
        atFirst();
        terms();
        toolHangUnhangKind();
        cards();
        ofAndHone();
        use();
        shift();
        due.end();
    }

    private static void atFirst() {
        newHooksHoldNothing();
        newTraysRacksGridsAreMissing();
        newAlarmsAreNotThere();
        newCountsAreNone();
        objectsShareNothing();
    }

    private static void terms() {
        newToolsAreUnworn();
        allHooksMayHoldOneTool();
        hammerSumsWrap();
        bladeSumsWrap();
        fileSumsWrap();
        gaugeLooksAtNoForce();
        weightsWrap();
    }

    private static void toolHangUnhangKind() {
        toolOnTheLastHooks();
        toolUnknown();
        toolOutside();
        toolUnknownAheadOfOutside();
        toolHeldOne();
        hangOnTheLastHooks();
        hangUnknown();
        hangNothing();
        hangOnItself();
        unhangTheLastHooks();
        unhangUnknown();
        kindOfTheLastHooks();
        kindUnknown();
    }

    private static void cards() {
        cardNames();
        cardUnknown();
        cardNothing();
        uncardTwice();
        uncardUnknown();
        uncardNothing();
        renameNames();
        renameUnknown();
        renameNoTool();
        renameNoCard();
    }

    private static void ofAndHone() {
        ofEachWhat();
        ofUnknown();
        ofOutside();
        ofUnknownAheadOfOutside();
        ofOutsideAheadOfFailures();
        ofNoTool();
        ofNoCard();
        ofCast();
        ofZeroIsNoRefusal();
        honeEdges();
        honeUnknown();
        honeCast();
        honeNothing();
    }

    private static void use() {
        useTheLastHooks();
        useUnknown();
        useNothing();
        useMayTellZero();
    }

    private static void shift() {
        shiftNoTime();
        shiftNineTimes();
        shiftUnknownHook();
        shiftUnknownTray();
        shiftOutside();
        shiftUnknownAheadOfOutside();
        shiftRefusedAheadOfFailures();
        shiftNoHook();
        shiftNoTool();
        shiftNoTray();
        shiftNoItem();
        shiftNoHookAheadOfNoItem();
        shiftNoToolAheadOfNoTray();
        shiftNoToolAheadOfNoItem();
        shiftStopsAtTheFirst();
        shiftForces();
        shiftOneToolTwice();
    }

    private static String named(String call, int... arguments) {
        String list = java.util.Arrays.toString(arguments);
        return call + "(" + list.substring(1, list.length() - 1) + ")";
    }

    private static ToolRoom with(int kind) {
        ToolRoom x = new ToolRoom();
        x.tool(0, kind);
        return x;
    }

    // ---- Promise 1: "Nothing is there."

    // "HOOKS 0 .. 9 hold a TOOL or nothing (at first ..)"
    private static void newHooksHoldNothing() {
        ToolRoom x = new ToolRoom();
        for (int hook = 0; hook <= 9; hook++) {
            due.fine(x, named("new: kind", hook), x.kind(hook), NONE);
            due.fine(x, named("new: unhang", hook), x.unhang(hook), 0);
            due.zero(x, named("new: use", hook, 1), x.use(hook, 1), NOTHING);
        }
    }

    // "TRAYS 0 .. 3 .., RACKS 0 .. 3 .., GRIDS 0, 1 ..; none is there at first."
    private static void newTraysRacksGridsAreMissing() {
        ToolRoom x = new ToolRoom();
        int[] lasts = {3, 3, 1};
        for (int what = 0; what < 3; what++) {
            for (int k = 0; k <= lasts[what]; k++) {
                due.refused(x, named("new: length", what, k), x.length(what, k), NOTHING);
                due.fine(x, named("new: lose", what, k), x.lose(what, k), 0);
            }
            due.refused(x, named("new: length", what, lasts[what] + 1), x.length(what, lasts[what] + 1), UNKNOWN);
        }
    }

    // "ALARMS 0 .. 3 are there, with a number, or not (at first)."
    private static void newAlarmsAreNotThere() {
        ToolRoom x = new ToolRoom();
        for (int k = 0; k <= 3; k++) {
            due.refused(x, named("new: let", k), x.let(k), NOTHING);
            due.fine(x, named("new: calm", k), x.calm(k), 0);
        }
        due.refused(x, "new: let(4)", x.let(4), UNKNOWN);
    }

    // "LATEST is the one that was met last (0: none ever)."
    private static void newCountsAreNone() {
        ToolRoom x = new ToolRoom();
        due.is("new: why()", x.why(), 0);
        for (int what = 0; what <= 7; what++) {
            due.is(named("new: count", what), x.count(what), 0);
        }
    }

    private static void objectsShareNothing() {
        ToolRoom full = new ToolRoom();
        Twins.furnish(full);
        Reading fresh = Reading.of(new ToolRoom());
        ToolRoom other = new ToolRoom();
        Twins.furnish(full);
        due.is("new beside another: count(0)", other.count(0), 0);
        due.is("new beside another: count(7)", other.count(7), 0);
        due.holds("new beside another: nothing is there", Reading.of(other).differenceTo(fresh).isEmpty());
    }

    // ---- Terms

    // "each has WEAR (an int, 0 at first), perhaps a CARD ..; BLADES an EDGE (an int, 100 at first)"
    private static void newToolsAreUnworn() {
        int[] weights = {50, 10, 12, 5};
        for (int kind = 0; kind <= 3; kind++) {
            ToolRoom x = with(kind);
            boolean isBlade = kind == BLADE || kind == FILE;
            due.fine(x, "new tool: kind", x.kind(0), kind);
            due.fine(x, "new tool: wear", x.of(0, WEAR), 0);
            due.fine(x, "new tool: weight", x.of(0, WEIGHT), weights[kind]);
            due.zero(x, "new tool: card", x.of(0, NAME), NOTHING);
            due.is("new tool: edge", x.of(0, EDGE), isBlade ? 100 : 0);
            due.is("new tool: edge, why()", x.why(), isBlade ? 0 : CAST);
        }
    }

    // "several may hold the same one"
    private static void allHooksMayHoldOneTool() {
        ToolRoom x = with(GAUGE);
        for (int hook = 1; hook <= 9; hook++) {
            due.fine(x, named("one tool: hang", hook, hook - 1), x.hang(hook, hook - 1), 1);
        }
        for (int hook = 0; hook <= 9; hook++) {
            due.fine(x, named("one tool: use", hook, 1), x.use(hook, 1), hook);
        }
        x.card(9, 4);
        due.fine(x, "one tool: of(0, 0)", x.of(0, NAME), 4);
        x.unhang(0);
        due.fine(x, "one tool: of(5, 1)", x.of(5, WEAR), 10);
    }

    // "HAMMER: f twice, and its WEAR is f more"; "All sums wrap"
    private static void hammerSumsWrap() {
        int[] twice = {0, -2, 0, 2, -2};
        for (int i = 0; i < INTS.length; i++) {
            ToolRoom x = with(HAMMER);
            due.fine(x, named("hammer: use", 0, INTS[i]), x.use(0, INTS[i]), twice[i]);
            due.fine(x, named("hammer: wear behind", INTS[i]), x.of(0, WEAR), INTS[i]);
        }
        ToolRoom x = with(HAMMER);
        due.fine(x, "hammer: twice 2^30", x.use(0, 1 << 30), MIN);
        due.fine(x, "hammer: twice 2^30 - 1", x.use(0, (1 << 30) - 1), MAX - 1);
        due.fine(x, "hammer: wear", x.of(0, WEAR), MAX);
        x.use(0, 1);
        due.fine(x, "hammer: wear above MAX", x.of(0, WEAR), MIN);
        x.use(0, -1);
        due.fine(x, "hammer: wear below MIN", x.of(0, WEAR), MAX);
        x.use(0, MAX);
        due.fine(x, "hammer: wear MAX and MAX", x.of(0, WEAR), -2);
    }

    // "BLADE: f and its WEAR, and the EDGE is f less"; "All sums wrap"
    private static void bladeSumsWrap() {
        int[] edges = {MIN + 100, 101, 100, 99, MIN + 101};
        for (int i = 0; i < INTS.length; i++) {
            ToolRoom x = with(BLADE);
            due.fine(x, named("blade: use", 0, INTS[i]), x.use(0, INTS[i]), INTS[i]);
            due.fine(x, named("blade: edge behind", INTS[i]), x.of(0, EDGE), edges[i]);
            due.fine(x, named("blade: wear behind", INTS[i]), x.of(0, WEAR), 0);
        }
        ToolRoom x = with(BLADE);
        x.hone(0, MIN);
        x.use(0, 1);
        due.fine(x, "blade: edge below MIN", x.of(0, EDGE), MAX);
        x.use(0, -1);
        due.fine(x, "blade: edge above MAX", x.of(0, EDGE), MIN);
        x.use(0, MIN);
        due.fine(x, "blade: edge MIN less MIN", x.of(0, EDGE), 0);
    }

    // "FILE: as a BLADE, and 1, and then its EDGE is 1 more"; "All sums wrap"
    private static void fileSumsWrap() {
        int[] tells = {MIN + 1, 0, 1, 2, MIN};
        int[] edges = {MIN + 101, 102, 101, 100, MIN + 102};
        for (int i = 0; i < INTS.length; i++) {
            ToolRoom x = with(FILE);
            due.fine(x, named("file: use", 0, INTS[i]), x.use(0, INTS[i]), tells[i]);
            due.fine(x, named("file: edge behind", INTS[i]), x.of(0, EDGE), edges[i]);
            due.fine(x, named("file: wear behind", INTS[i]), x.of(0, WEAR), 0);
        }
        ToolRoom x = with(FILE);
        x.hone(0, MAX);
        x.use(0, 0);
        due.fine(x, "file: edge above MAX", x.of(0, EDGE), MIN);
        x.use(0, 2);
        due.fine(x, "file: edge below MIN", x.of(0, EDGE), MAX);
    }

    // "GAUGE: its WEAR, which is 1 more behind that"
    private static void gaugeLooksAtNoForce() {
        ToolRoom x = with(GAUGE);
        for (int i = 0; i < INTS.length; i++) {
            due.fine(x, named("gauge: use", 0, INTS[i]), x.use(0, INTS[i]), i);
            due.fine(x, named("gauge: wear behind", INTS[i]), x.of(0, WEAR), i + 1);
        }
    }

    // "WEIGHTS: HAMMER 50 and its WEAR, BLADE 10, FILE 12, GAUGE 5. (All sums wrap.)"
    private static void weightsWrap() {
        ToolRoom x = with(HAMMER);
        x.use(0, MAX - 50);
        due.fine(x, "weight of a hammer: the greatest", x.of(0, WEIGHT), MAX);
        x.use(0, 1);
        due.fine(x, "weight of a hammer: 1 more wraps", x.of(0, WEIGHT), MIN);
        x.use(0, -(MAX - 49) - 50);
        due.fine(x, "weight of a hammer: none", x.of(0, WEIGHT), 0);
        x.use(0, -1);
        due.fine(x, "weight of a hammer: fewer than none", x.of(0, WEIGHT), -1);
        for (int kind = BLADE; kind <= GAUGE; kind++) {
            ToolRoom y = with(kind);
            int weight = y.of(0, WEIGHT);
            y.use(0, MAX);
            due.fine(y, "weight of a used one", y.of(0, WEIGHT), weight);
        }
    }

    // ---- Promise 2: tool

    // "A new TOOL of a kind 0 .. 3 on a HOOK"
    private static void toolOnTheLastHooks() {
        for (int hook : new int[] {0, 9}) {
            for (int kind : new int[] {0, 3}) {
                ToolRoom x = new ToolRoom();
                due.fine(x, named("tool", hook, kind), x.tool(hook, kind), 0);
                for (int other = 0; other <= 9; other++) {
                    due.fine(x, named("kind", other), x.kind(other), other == hook ? kind : NONE);
                }
            }
        }
    }

    // "UNKNOWN"
    private static void toolUnknown() {
        for (int hook : NO_HOOKS) {
            for (int kind = 0; kind <= 3; kind++) {
                int anyKind = kind;
                twins.refused(named("tool", hook, kind), x -> x.tool(hook, anyKind), UNKNOWN);
            }
        }
    }

    // "OUTSIDE"
    private static void toolOutside() {
        for (int kind : new int[] {MIN, -1, 4, MAX}) {
            for (int hook : new int[] {0, EMPTY, 9}) {
                twins.refused(named("tool", hook, kind), x -> x.tool(hook, kind), OUTSIDE);
            }
        }
    }

    private static void toolUnknownAheadOfOutside() {
        for (int hook : NO_HOOKS) {
            for (int kind : new int[] {MIN, -1, 4, MAX}) {
                twins.refused(named("tool", hook, kind), x -> x.tool(hook, kind), UNKNOWN);
            }
        }
    }

    // "1, if it held one; 0"
    private static void toolHeldOne() {
        for (int kind = 0; kind <= 3; kind++) {
            ToolRoom x = with(kind);
            x.card(0, 3);
            x.use(0, 5);
            due.fine(x, named("tool", 0, kind), x.tool(0, kind), 1);
            due.fine(x, "wear of the new one", x.of(0, WEAR), 0);
            due.zero(x, "card of the new one", x.of(0, NAME), NOTHING);
            x.unhang(0);
            due.fine(x, named("tool", 0, kind), x.tool(0, kind), 0);
            x.hang(0, 9);
            due.fine(x, named("tool", 0, kind), x.tool(0, kind), 0);
        }
        twins.does("tool(1, 0): hook 4 keeps the old one", x -> x.tool(1, HAMMER), 1, x -> {
            x.unhang(1);
            x.tool(1, HAMMER);
        });
    }

    // ---- Promise 3: hang

    // "HOOK g holds what HOOK h holds: 1, if that is something"
    private static void hangOnTheLastHooks() {
        for (int g : new int[] {0, 9}) {
            ToolRoom x = new ToolRoom();
            x.tool(9 - g, BLADE);
            due.fine(x, named("hang", g, 9 - g), x.hang(g, 9 - g), 1);
            x.hone(g, 8);
            due.fine(x, "edge on the other hook", x.of(9 - g, EDGE), 8);
        }
    }

    // "UNKNOWN"
    private static void hangUnknown() {
        for (int no : NO_HOOKS) {
            twins.refused(named("hang", no, 0), x -> x.hang(no, 0), UNKNOWN);
            twins.refused(named("hang", no, EMPTY), x -> x.hang(no, EMPTY), UNKNOWN);
            twins.refused(named("hang", 0, no), x -> x.hang(0, no), UNKNOWN);
            twins.refused(named("hang", EMPTY, no), x -> x.hang(EMPTY, no), UNKNOWN);
            twins.refused(named("hang", no, no), x -> x.hang(no, no), UNKNOWN);
        }
    }

    // "0" (nothing)
    private static void hangNothing() {
        twins.does("hang(0, 5)", x -> x.hang(0, EMPTY), 0, x -> x.unhang(0));
        twins.tells("hang(6, 5)", x -> x.hang(6, EMPTY), 0);
    }

    private static void hangOnItself() {
        twins.tells("hang(0, 0)", x -> x.hang(0, 0), 1);
        twins.tells("hang(5, 5)", x -> x.hang(EMPTY, EMPTY), 0);
        twins.tells("hang(1, 4): the same already", x -> x.hang(1, 4), 1);
    }

    // ---- Promise 4: unhang

    // "A HOOK holds nothing: 1; 0: it did so."
    private static void unhangTheLastHooks() {
        for (int hook : new int[] {0, 9}) {
            ToolRoom x = new ToolRoom();
            x.tool(0, HAMMER);
            x.tool(9, HAMMER);
            due.fine(x, named("unhang", hook), x.unhang(hook), 1);
            due.fine(x, named("kind", hook), x.kind(hook), NONE);
            due.fine(x, named("kind", 9 - hook), x.kind(9 - hook), HAMMER);
            due.fine(x, named("unhang", hook), x.unhang(hook), 0);
        }
        twins.tells("unhang(5)", x -> x.unhang(EMPTY), 0);
        twins.does("unhang(1): hook 4 keeps it", x -> x.unhang(1), 1, x -> x.hang(1, EMPTY));
    }

    // "UNKNOWN"
    private static void unhangUnknown() {
        for (int hook : NO_HOOKS) {
            twins.refused(named("unhang", hook), x -> x.unhang(hook), UNKNOWN);
        }
    }

    // ---- Promise 5: kind

    // "The kind of the TOOL on a HOOK; NONE."
    private static void kindOfTheLastHooks() {
        twins.tells("kind(0)", x -> x.kind(0), HAMMER);
        twins.tells("kind(2): a file is a blade, but of kind 2", x -> x.kind(2), FILE);
        twins.tells("kind(5)", x -> x.kind(EMPTY), NONE);
        twins.tells("kind(9)", x -> x.kind(9), GAUGE);
    }

    // "UNKNOWN"
    private static void kindUnknown() {
        for (int hook : NO_HOOKS) {
            twins.refused(named("kind", hook), x -> x.kind(hook), UNKNOWN);
        }
    }

    // ---- Promise 6: card

    // "The TOOL on a HOOK gets a new CARD with a NAME: 1."
    private static void cardNames() {
        for (int name : INTS) {
            for (int hook : new int[] {0, 9}) {
                Twins.Call card = x -> x.card(hook, name);
                twins.after(card::on).tells(named("name behind card", hook, name), x -> x.of(hook, NAME), name);
                ToolRoom x = new ToolRoom();
                Twins.furnish(x);
                due.fine(x, named("card", hook, name), x.card(hook, name), 1);
            }
            twins.does(named("card", 0, name), x -> x.card(0, name), 1, x -> x.rename(0, name));
        }
    }

    // "UNKNOWN"
    private static void cardUnknown() {
        for (int hook : NO_HOOKS) {
            twins.refused(named("card", hook, 1), x -> x.card(hook, 1), UNKNOWN);
        }
    }

    // "NOTHING: no TOOL."
    private static void cardNothing() {
        for (int hook = 5; hook <= 8; hook++) {
            int empty = hook;
            twins.refused(named("card", hook, 1), x -> x.card(empty, 1), NOTHING);
        }
        twins.after(x -> x.unhang(9)).refused("card(9, MIN)", x -> x.card(9, MIN), NOTHING);
    }

    // ---- Promise 7: uncard

    // "It has no CARD any more: 1."
    private static void uncardTwice() {
        ToolRoom x = with(HAMMER);
        x.hang(9, 0);
        x.card(9, 6);
        due.fine(x, "uncard(9)", x.uncard(9), 1);
        due.zero(x, "of(0, 0)", x.of(0, NAME), NOTHING);
        due.zero(x, "of(9, 0)", x.of(9, NAME), NOTHING);
        due.fine(x, "uncard(0): it has none already", x.uncard(0), 1);
        twins.tells("uncard(9) without a card", y -> y.uncard(9), 1);
    }

    // "UNKNOWN"
    private static void uncardUnknown() {
        for (int hook : NO_HOOKS) {
            twins.refused(named("uncard", hook), x -> x.uncard(hook), UNKNOWN);
        }
    }

    // "NOTHING: no TOOL."
    private static void uncardNothing() {
        twins.refused("uncard(5)", x -> x.uncard(EMPTY), NOTHING);
        twins.after(x -> x.unhang(0)).refused("uncard(0)", x -> x.uncard(0), NOTHING);
    }

    // ---- Promise 8: rename

    // "The NAME of its CARD becomes v: 1."
    private static void renameNames() {
        for (int name : INTS) {
            twins.does(named("rename", 0, name), x -> x.rename(0, name), 1, x -> x.card(0, name));
        }
        ToolRoom x = with(GAUGE);
        x.card(0, 2);
        x.hang(9, 0);
        due.fine(x, "rename(9, MIN)", x.rename(9, MIN), 1);
        due.fine(x, "of(0, 0)", x.of(0, NAME), MIN);
    }

    // "UNKNOWN"
    private static void renameUnknown() {
        for (int hook : NO_HOOKS) {
            twins.refused(named("rename", hook, 1), x -> x.rename(hook, 1), UNKNOWN);
        }
    }

    // "NOTHING: no TOOL"
    private static void renameNoTool() {
        twins.refused("rename(5, 1)", x -> x.rename(EMPTY, 1), NOTHING);
    }

    // "no CARD."
    private static void renameNoCard() {
        for (int hook : new int[] {1, 2, 4, 9}) {
            twins.refused(named("rename", hook, 1), x -> x.rename(hook, 1), NOTHING);
        }
        twins.after(x -> x.uncard(0)).refused("rename(0, 1) behind uncard", x -> x.rename(0, 1), NOTHING);
        twins.after(x -> x.tool(0, HAMMER)).refused("rename(0, 1) of a new one", x -> x.rename(0, 1), NOTHING);
    }

    // ---- Promise 9: of

    // "What = 0 the NAME of its CARD, 1 its WEAR, 2 its WEIGHT, 3 its EDGE."
    private static void ofEachWhat() {
        twins.tells("of(0, 0)", x -> x.of(0, NAME), 5);
        twins.tells("of(0, 1)", x -> x.of(0, WEAR), 7);
        twins.tells("of(0, 2)", x -> x.of(0, WEIGHT), 57);
        twins.tells("of(2, 3)", x -> x.of(2, EDGE), 93);
        twins.tells("of(9, 1)", x -> x.of(9, WEAR), 0);
        twins.tells("of(9, 2)", x -> x.of(9, WEIGHT), 5);
    }

    // "UNKNOWN"
    private static void ofUnknown() {
        for (int hook : NO_HOOKS) {
            for (int what = 0; what <= 3; what++) {
                int any = what;
                twins.zero(named("of", hook, what), x -> x.of(hook, any), UNKNOWN);
            }
        }
    }

    // "OUTSIDE"
    private static void ofOutside() {
        for (int what : new int[] {MIN, -1, 4, MAX}) {
            for (int hook : new int[] {0, 1, 9}) {
                twins.zero(named("of", hook, what), x -> x.of(hook, what), OUTSIDE);
            }
        }
    }

    private static void ofUnknownAheadOfOutside() {
        for (int hook : NO_HOOKS) {
            for (int what : new int[] {MIN, -1, 4, MAX}) {
                twins.zero(named("of", hook, what), x -> x.of(hook, what), UNKNOWN);
            }
        }
    }

    // "ahead of FAILURES" (no TOOL)
    private static void ofOutsideAheadOfFailures() {
        for (int what : new int[] {MIN, -1, 4, MAX}) {
            twins.zero(named("of", EMPTY, what), x -> x.of(EMPTY, what), OUTSIDE);
        }
    }

    // "NOTHING: no TOOL"; "(with no TOOL: NOTHING)"
    private static void ofNoTool() {
        for (int what = 0; what <= 3; what++) {
            int any = what;
            twins.zero(named("of", EMPTY, what), x -> x.of(EMPTY, any), NOTHING);
        }
    }

    // "(for 0 also no CARD)"
    private static void ofNoCard() {
        for (int hook : new int[] {1, 2, 4, 9}) {
            twins.zero(named("of", hook, NAME), x -> x.of(hook, NAME), NOTHING);
            twins.tells(named("of", hook, WEAR), x -> x.of(hook, WEAR), 0);
        }
        twins.after(x -> x.uncard(0)).zero("of(0, 0) behind uncard", x -> x.of(0, NAME), NOTHING);
    }

    // "CAST (3): it is no BLADE"
    private static void ofCast() {
        twins.zero("of(0, 3)", x -> x.of(0, EDGE), CAST);
        twins.zero("of(3, 3)", x -> x.of(3, EDGE), CAST);
        twins.tells("of(1, 3)", x -> x.of(1, EDGE), 100);
        twins.tells("of(2, 3): FILES are BLADES too", x -> x.of(2, EDGE), 93);
    }

    // "0 if that is refused (told by why())"
    private static void ofZeroIsNoRefusal() {
        twins.tells("of(3, 0)", x -> x.of(3, NAME), 0);
        twins.tells("of(1, 1)", x -> x.of(1, WEAR), 0);
        twins.after(x -> x.use(0, -57)).tells("of(0, 2)", x -> x.of(0, WEIGHT), 0);
        twins.after(x -> x.hone(1, 0)).tells("of(1, 3)", x -> x.of(1, EDGE), 0);
    }

    // ---- Promise 10: hone

    // "Its EDGE becomes v: 1."
    private static void honeEdges() {
        for (int v : INTS) {
            ToolRoom x = new ToolRoom();
            Twins.furnish(x);
            due.fine(x, named("hone", 1, v), x.hone(1, v), 1);
            due.fine(x, "of(4, 3): the same one's", x.of(4, EDGE), v);
            due.fine(x, "of(2, 3): another one's", x.of(2, EDGE), 93);
            due.fine(x, named("hone", 2, v), x.hone(2, v), 1);
            due.fine(x, "of(2, 3)", x.of(2, EDGE), v);
            twins.does(named("hone", 4, v), y -> y.hone(4, v), 1, y -> y.hone(1, v));
        }
    }

    // "UNKNOWN"
    private static void honeUnknown() {
        for (int hook : NO_HOOKS) {
            twins.refused(named("hone", hook, 1), x -> x.hone(hook, 1), UNKNOWN);
        }
    }

    // "CAST: it is no BLADE"
    private static void honeCast() {
        for (int hook : new int[] {0, 3, 9}) {
            twins.refused(named("hone", hook, 1), x -> x.hone(hook, 1), CAST);
        }
    }

    // "NOTHING: no TOOL."
    private static void honeNothing() {
        twins.refused("hone(5, 1)", x -> x.hone(EMPTY, 1), NOTHING);
        twins.after(x -> x.unhang(1)).refused("hone(1, 1) behind unhang", x -> x.hone(1, 1), NOTHING);
    }

    // ---- Promise 11: use

    // "It is USED with a FORCE: what it tells."
    private static void useTheLastHooks() {
        ToolRoom x = with(HAMMER);
        x.tool(9, GAUGE);
        due.fine(x, "use(0, 3)", x.use(0, 3), 6);
        due.fine(x, "use(9, 3)", x.use(9, 3), 0);
        due.fine(x, "use(9, 3)", x.use(9, 3), 1);
        due.is("count(7)", x.count(7), 3);
        twins.does("use(4, 6)", y -> y.use(4, 6), 6, y -> y.use(1, 6));
    }

    // "0 if that is refused (why()): UNKNOWN"
    private static void useUnknown() {
        for (int hook : NO_HOOKS) {
            twins.zero(named("use", hook, 1), x -> x.use(hook, 1), UNKNOWN);
        }
    }

    // "NOTHING."
    private static void useNothing() {
        twins.zero("use(5, 1)", x -> x.use(EMPTY, 1), NOTHING);
        twins.after(x -> x.unhang(9)).zero("use(9, MIN) behind unhang", x -> x.use(9, MIN), NOTHING);
    }

    private static void useMayTellZero() {
        int[] forces = {0, 0, -1, 5};
        for (int kind = 0; kind <= 3; kind++) {
            ToolRoom x = with(kind);
            x.kind(10);
            due.fine(x, "use that tells 0", x.use(0, forces[kind]), 0);
            due.is("use that tells 0, then count(7)", x.count(7), 1);
        }
    }

    // ---- Promise 12: shift

    // "n times (0 .. 9)": the least
    private static void shiftNoTime() {
        for (int h : new int[] {0, EMPTY, 9}) {
            for (int tray = 0; tray <= 3; tray++) {
                int any = tray;
                twins.tells(named("shift", h, 0, 4, tray), x -> x.shift(h, 0, 4, any), 0);
            }
        }
    }

    // "n times (0 .. 9)": the most
    private static void shiftNineTimes() {
        for (int h = 0; h <= 1; h++) {
            for (int tray : new int[] {0, 3}) {
                ToolRoom x = new ToolRoom();
                for (int hook = 0; hook <= 9; hook++) {
                    x.tool(hook, BLADE);
                }
                x.tray(tray, 9);
                due.fine(x, named("shift", h, 9, 2, tray), x.shift(h, 9, 2, tray), 9);
                for (int hook = 0; hook <= 9; hook++) {
                    boolean isUsed = hook >= h && hook <= h + 8;
                    due.fine(x, named("edge on", hook), x.of(hook, EDGE), isUsed ? 98 : 100);
                }
                for (int k = 0; k <= 8; k++) {
                    due.fine(x, named("get", tray, k), x.get(tray, k), 2);
                }
                due.is("count(7)", x.count(7), 9);
            }
        }
    }

    // "UNKNOWN (h ..)"
    private static void shiftUnknownHook() {
        for (int h : NO_HOOKS) {
            twins.refused(named("shift", h, 1, 1, 0), x -> x.shift(h, 1, 1, 0), UNKNOWN);
            twins.refused(named("shift", h, 0, 1, 0), x -> x.shift(h, 0, 1, 0), UNKNOWN);
            twins.refused(named("shift", h, 9, 1, 0), x -> x.shift(h, 9, 1, 0), UNKNOWN);
        }
    }

    // "UNKNOWN (.. the TRAY)"
    private static void shiftUnknownTray() {
        for (int tray : NO_TRAYS) {
            twins.refused(named("shift", 0, 1, 1, tray), x -> x.shift(0, 1, 1, tray), UNKNOWN);
            twins.refused(named("shift", 0, 0, 1, tray), x -> x.shift(0, 0, 1, tray), UNKNOWN);
            for (int h : NO_HOOKS) {
                twins.refused(named("shift", h, 1, 1, tray), x -> x.shift(h, 1, 1, tray), UNKNOWN);
            }
        }
    }

    // "OUTSIDE (n)"
    private static void shiftOutside() {
        for (int n : new int[] {MIN, -1, 10, MAX}) {
            twins.refused(named("shift", 0, n, 1, 0), x -> x.shift(0, n, 1, 0), OUTSIDE);
            twins.refused(named("shift", 9, n, 1, 3), x -> x.shift(9, n, 1, 3), OUTSIDE);
        }
    }

    private static void shiftUnknownAheadOfOutside() {
        for (int n : new int[] {MIN, -1, 10, MAX}) {
            for (int no : NO_HOOKS) {
                twins.refused(named("shift", no, n, 1, 0), x -> x.shift(no, n, 1, 0), UNKNOWN);
            }
            for (int no : NO_TRAYS) {
                twins.refused(named("shift", 0, n, 1, no), x -> x.shift(0, n, 1, no), UNKNOWN);
            }
        }
    }

    // "ahead of FAILURES" (no TOOL, no TRAY, no such item)
    private static void shiftRefusedAheadOfFailures() {
        for (int n : new int[] {MIN, -1, 10, MAX}) {
            twins.refused(named("shift", EMPTY, n, 1, 2), x -> x.shift(EMPTY, n, 1, 2), OUTSIDE);
            twins.refused(named("shift", 0, n, 1, 2), x -> x.shift(0, n, 1, 2), OUTSIDE);
            twins.refused(named("shift", 0, n, 1, 1), x -> x.shift(0, n, 1, 1), OUTSIDE);
        }
        twins.refused("shift(5, 1, 1, 4)", x -> x.shift(EMPTY, 1, 1, 4), UNKNOWN);
        twins.refused("shift(10, 1, 1, 2)", x -> x.shift(10, 1, 1, 2), UNKNOWN);
    }

    // "INDEX: there is no HOOK h + k"; "What was done stays."
    private static void shiftNoHook() {
        for (int n : new int[] {2, 9}) {
            twins.failsBehind(named("shift", 9, n, 1, 3), x -> x.shift(9, n, 1, 3), INDEX,
                x -> x.put(3, 0, x.use(9, 1)));
        }
        twins.does("shift(9, 1, 1, 3): the last hook is one", x -> x.shift(9, 1, 1, 3), 1,
            x -> x.put(3, 0, x.use(9, 1)));
        Twins full = twins.after(ToolBoundsTest::fillHooks);
        full.failsBehind("shift(2, 9, 1, 3)", x -> x.shift(2, 9, 1, 3), INDEX, x -> shiftByHand(x, 2, 8, 1, 3));
        full.does("shift(2, 8, 1, 3)", x -> x.shift(2, 8, 1, 3), 8, x -> shiftByHand(x, 2, 8, 1, 3));
    }

    private static void fillHooks(ToolRoom x) {
        for (int hook = 5; hook <= 8; hook++) {
            x.tool(hook, hook - 5);
        }
    }

    private static void shiftByHand(ToolRoom x, int h, int n, int f, int tray) {
        for (int k = 0; k < n; k++) {
            x.put(tray, k, x.use(h + k, f));
        }
    }

    // "NOTHING: no TOOL"; "What was done stays."
    private static void shiftNoTool() {
        twins.refused("shift(5, 1, 1, 3)", x -> x.shift(EMPTY, 1, 1, 3), NOTHING);
        twins.failsBehind("shift(3, 3, 1, 3)", x -> x.shift(3, 3, 1, 3), NOTHING, x -> shiftByHand(x, 3, 2, 1, 3));
        twins.does("shift(3, 2, 1, 3): one time fewer", x -> x.shift(3, 2, 1, 3), 2, x -> shiftByHand(x, 3, 2, 1, 3));
        twins.failsBehind("shift(0, 9, 1, 3)", x -> x.shift(0, 9, 1, 3), NOTHING, x -> shiftByHand(x, 0, 5, 1, 3));
    }

    // "NOTHING: no TRAY"; the USE ahead of it stays
    private static void shiftNoTray() {
        for (int n : new int[] {1, 2, 9}) {
            twins.failsBehind(named("shift", 0, n, 6, 2), x -> x.shift(0, n, 6, 2), NOTHING, x -> x.use(0, 6));
        }
        twins.after(x -> x.lose(0, 3)).failsBehind("shift(0, 1, 6, 3) behind lose", x -> x.shift(0, 1, 6, 3), NOTHING,
            x -> x.use(0, 6));
    }

    // "INDEX: no such item"; the USE ahead of it stays
    private static void shiftNoItem() {
        twins.failsBehind("shift(0, 1, 6, 1)", x -> x.shift(0, 1, 6, 1), INDEX, x -> x.use(0, 6));
        twins.failsBehind("shift(0, 4, 6, 0)", x -> x.shift(0, 4, 6, 0), INDEX, x -> {
            shiftByHand(x, 0, 3, 6, 0);
            x.use(3, 6);
        });
        twins.does("shift(0, 3, 6, 0): one time fewer", x -> x.shift(0, 3, 6, 0), 3, x -> shiftByHand(x, 0, 3, 6, 0));
        twins.after(x -> x.tray(3, 8)).after(ToolBoundsTest::fillHooks).failsBehind("shift(0, 9, 6, 3) of 8 items",
            x -> x.shift(0, 9, 6, 3), INDEX, x -> {
                shiftByHand(x, 0, 8, 6, 3);
                x.use(8, 6);
            });
    }

    // Both are INDEX: that the HOOK is looked at first shows in the USES.
    private static void shiftNoHookAheadOfNoItem() {
        twins.after(x -> x.tray(0, 1)).failsBehind("shift(9, 2, 1, 0) of 1 item", x -> x.shift(9, 2, 1, 0), INDEX,
            x -> x.put(0, 0, x.use(9, 1)));
    }

    // Both are NOTHING, and met once.
    private static void shiftNoToolAheadOfNoTray() {
        twins.refused("shift(5, 1, 1, 2)", x -> x.shift(EMPTY, 1, 1, 2), NOTHING);
    }

    private static void shiftNoToolAheadOfNoItem() {
        twins.refused("shift(5, 1, 1, 1)", x -> x.shift(EMPTY, 1, 1, 1), NOTHING);
        twins.after(x -> x.tray(3, 2)).failsBehind("shift(3, 3, 1, 3) of 2 items", x -> x.shift(3, 3, 1, 3), NOTHING,
            x -> shiftByHand(x, 3, 2, 1, 3));
    }

    // Of an earlier time's last FAILURE and a later time's first, the earlier time's is met.
    private static void shiftStopsAtTheFirst() {
        twins.failsBehind("shift(9, 2, 1, 1): no item, then no hook", x -> x.shift(9, 2, 1, 1), INDEX, x -> x.use(9, 1));
        twins.failsBehind("shift(9, 2, 1, 2): no tray, then no hook", x -> x.shift(9, 2, 1, 2), NOTHING,
            x -> x.use(9, 1));
        twins.failsBehind("shift(4, 2, 1, 1): no item, then no tool", x -> x.shift(4, 2, 1, 1), INDEX,
            x -> x.use(4, 1));
        twins.refused("shift(8, 3, 1, 3): no tool, then no hook", x -> x.shift(8, 3, 1, 3), NOTHING);
    }

    // "USED with FORCE f"; "All sums wrap"
    private static void shiftForces() {
        for (int f : INTS) {
            twins.does(named("shift", 0, 5, f, 3), x -> x.shift(0, 5, f, 3), 5, x -> shiftByHand(x, 0, 5, f, 3));
        }
        ToolRoom x = with(FILE);
        x.tray(0, 1);
        x.shift(0, 1, MAX, 0);
        due.fine(x, "get(0, 0) behind shift(0, 1, MAX, 0)", x.get(0, 0), MIN);
        due.fine(x, "of(0, 3) behind shift(0, 1, MAX, 0)", x.of(0, EDGE), MIN + 102);
    }

    private static void shiftOneToolTwice() {
        ToolRoom x = with(GAUGE);
        x.hang(1, 0);
        x.tray(0, 2);
        due.fine(x, "shift(0, 2, 1, 0)", x.shift(0, 2, 1, 0), 2);
        due.fine(x, "get(0, 0)", x.get(0, 0), 0);
        due.fine(x, "get(0, 1)", x.get(0, 1), 1);
        due.fine(x, "of(0, 1)", x.of(0, WEAR), 2);
    }
}
