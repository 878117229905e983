/** Promises 1 to 12: a new object and the tools. */
public final class ToolsTest {
    private static final int UNKNOWN = -2, OUTSIDE = -3, NOTHING = -11, INDEX = -12, CAST = -14;
    private static final int MAX = Integer.MAX_VALUE, MIN = Integer.MIN_VALUE;
    private static final int[] NO_HOOKS = {-1, 10, MAX, MIN};
    private static final Due due = new Due("ToolsTest");

    public static void main(String[] args) {
        newObject();
        tool();
        hang();
        unhang();
        kind();
        card();
        uncard();
        rename();
        of();
        hone();
        useOfEachKind();
        useWraps();
        useRefused();
        shift();
        shiftFailures();
        shiftOrder();
        due.end();
    }

    private static ToolRoom withEachKind() {
        ToolRoom x = new ToolRoom();
        for (int kind = 0; kind < 4; kind++) {
            x.tool(kind, kind);
        }
        return x;
    }

    // Promise 1
    private static void newObject() {
        ToolRoom x = new ToolRoom();
        due.is("why()", x.why(), 0);
        for (int what = 0; what < 8; what++) {
            due.is("count(" + what + ")", x.count(what), 0);
        }
        for (int hook = 0; hook < 10; hook++) {
            due.fine(x, "kind(" + hook + ")", x.kind(hook), ToolRoom.NONE);
        }
        for (int k = 0; k < 4; k++) {
            due.fine(x, "lose(0, k)", x.lose(0, k), 0);
            due.fine(x, "lose(1, k)", x.lose(1, k), 0);
            due.fine(x, "calm(k)", x.calm(k), 0);
        }
        due.fine(x, "lose(2, 0)", x.lose(2, 0), 0);
        due.fine(x, "lose(2, 1)", x.lose(2, 1), 0);
        x.tool(0, 0);
        due.is("kind(0) of another object", new ToolRoom().kind(0), ToolRoom.NONE);
    }

    // Promise 2
    private static void tool() {
        ToolRoom x = new ToolRoom();
        due.fine(x, "tool(0, 0)", x.tool(0, 0), 0);
        due.fine(x, "tool(9, 3)", x.tool(9, 3), 0);
        x.use(0, 5);
        x.card(0, 8);
        due.fine(x, "tool(0, 1)", x.tool(0, 1), 1);
        due.fine(x, "of(0, 1) of the new one", x.of(0, 1), 0);
        due.fine(x, "of(0, 3) of the new one", x.of(0, 3), 100);
        due.zero(x, "of(0, 0) of the new one", x.of(0, 0), NOTHING);
        for (int hook : NO_HOOKS) {
            due.refused(x, "tool(no hook, 0)", x.tool(hook, 0), UNKNOWN);
            due.refused(x, "tool(no hook, 4)", x.tool(hook, 4), UNKNOWN);
        }
        for (int kind : new int[] {-1, 4, MAX, MIN}) {
            due.refused(x, "tool(0, no kind)", x.tool(0, kind), OUTSIDE);
        }
        due.is("kind(0) after refusals", x.kind(0), 1);
        x.hang(1, 0);
        x.tool(0, 2);
        due.is("kind(1): it keeps the old one", x.kind(1), 1);
    }

    // Promise 3
    private static void hang() {
        ToolRoom x = withEachKind();
        due.fine(x, "hang(9, 1)", x.hang(9, 1), 1);
        x.use(9, 7);
        due.is("of(1, 3): it is the same one", x.of(1, 3), 93);
        due.fine(x, "hang(1, 1)", x.hang(1, 1), 1);
        due.is("kind(1)", x.kind(1), 1);
        due.fine(x, "hang(9, 5)", x.hang(9, 5), 0);
        due.is("kind(9)", x.kind(9), ToolRoom.NONE);
        due.fine(x, "hang(5, 5)", x.hang(5, 5), 0);
        for (int hook : NO_HOOKS) {
            due.refused(x, "hang(no hook, 0)", x.hang(hook, 0), UNKNOWN);
            due.refused(x, "hang(0, no hook)", x.hang(0, hook), UNKNOWN);
        }
        due.is("kind(0) after refusals", x.kind(0), 0);
    }

    // Promise 4
    private static void unhang() {
        ToolRoom x = withEachKind();
        x.hang(4, 3);
        due.fine(x, "unhang(3)", x.unhang(3), 1);
        due.is("kind(3)", x.kind(3), ToolRoom.NONE);
        due.is("kind(4)", x.kind(4), 3);
        due.fine(x, "unhang(3)", x.unhang(3), 0);
        for (int hook : NO_HOOKS) {
            due.refused(x, "unhang(no hook)", x.unhang(hook), UNKNOWN);
        }
    }

    // Promise 5
    private static void kind() {
        ToolRoom x = withEachKind();
        for (int kind = 0; kind < 4; kind++) {
            due.fine(x, "kind(" + kind + ")", x.kind(kind), kind);
        }
        due.fine(x, "kind(4)", x.kind(4), -1);
        for (int hook : NO_HOOKS) {
            due.refused(x, "kind(no hook)", x.kind(hook), UNKNOWN);
        }
    }

    // Promise 6
    private static void card() {
        ToolRoom x = withEachKind();
        due.fine(x, "card(0, 5)", x.card(0, 5), 1);
        due.is("of(0, 0)", x.of(0, 0), 5);
        due.fine(x, "card(0, MIN)", x.card(0, MIN), 1);
        due.is("of(0, 0)", x.of(0, 0), MIN);
        due.zero(x, "of(1, 0): the others have none", x.of(1, 0), NOTHING);
        x.hang(7, 0);
        due.is("of(7, 0): the card is the tool's", x.of(7, 0), MIN);
        due.refused(x, "card(8, 1)", x.card(8, 1), NOTHING);
        for (int hook : NO_HOOKS) {
            due.refused(x, "card(no hook, 1)", x.card(hook, 1), UNKNOWN);
        }
    }

    // Promise 7
    private static void uncard() {
        ToolRoom x = withEachKind();
        due.fine(x, "uncard(0) without a card", x.uncard(0), 1);
        x.card(0, 5);
        due.fine(x, "uncard(0)", x.uncard(0), 1);
        due.zero(x, "of(0, 0)", x.of(0, 0), NOTHING);
        due.refused(x, "rename(0, 1)", x.rename(0, 1), NOTHING);
        due.refused(x, "uncard(8)", x.uncard(8), NOTHING);
        for (int hook : NO_HOOKS) {
            due.refused(x, "uncard(no hook)", x.uncard(hook), UNKNOWN);
        }
    }

    // Promise 8
    private static void rename() {
        ToolRoom x = withEachKind();
        due.refused(x, "rename(0, 4) without a card", x.rename(0, 4), NOTHING);
        due.zero(x, "of(0, 0): rename makes no card", x.of(0, 0), NOTHING);
        x.card(0, 5);
        due.fine(x, "rename(0, 4)", x.rename(0, 4), 1);
        due.is("of(0, 0)", x.of(0, 0), 4);
        due.refused(x, "rename(8, 4)", x.rename(8, 4), NOTHING);
        for (int hook : NO_HOOKS) {
            due.refused(x, "rename(no hook, 4)", x.rename(hook, 4), UNKNOWN);
        }
        due.is("count(1)", x.count(1), 3);
    }

    // Promise 9
    private static void of() {
        ToolRoom x = withEachKind();
        int[] weights = {50, 10, 12, 5};
        for (int hook = 0; hook < 4; hook++) {
            due.zero(x, "of(" + hook + ", 0)", x.of(hook, 0), NOTHING);
            due.fine(x, "of(" + hook + ", 1)", x.of(hook, 1), 0);
            due.fine(x, "of(" + hook + ", 2)", x.of(hook, 2), weights[hook]);
        }
        x.card(3, 0);
        due.fine(x, "of(3, 0): a name of 0", x.of(3, 0), 0);
        due.zero(x, "of(0, 3)", x.of(0, 3), CAST);
        due.fine(x, "of(1, 3)", x.of(1, 3), 100);
        due.fine(x, "of(2, 3)", x.of(2, 3), 100);
        due.zero(x, "of(3, 3)", x.of(3, 3), CAST);
        x.use(0, 7);
        due.fine(x, "of(0, 2): its wear weighs", x.of(0, 2), 57);
        x.use(3, 7);
        due.fine(x, "of(3, 2): its wear does not", x.of(3, 2), 5);
        for (int what = 0; what < 4; what++) {
            due.zero(x, "of(8, " + what + ")", x.of(8, what), NOTHING);
        }
        for (int what : new int[] {-1, 4, MAX, MIN}) {
            due.zero(x, "of(0, " + what + ")", x.of(0, what), OUTSIDE);
            due.zero(x, "of(8, " + what + ")", x.of(8, what), OUTSIDE);
        }
        for (int hook : NO_HOOKS) {
            due.zero(x, "of(no hook, 1)", x.of(hook, 1), UNKNOWN);
            due.zero(x, "of(no hook, 4)", x.of(hook, 4), UNKNOWN);
        }
        due.is("count(1)", x.count(1), 8);
        due.is("count(4)", x.count(4), 2);
    }

    // Promise 10
    private static void hone() {
        ToolRoom x = withEachKind();
        due.fine(x, "hone(1, -5)", x.hone(1, -5), 1);
        due.is("of(1, 3)", x.of(1, 3), -5);
        due.fine(x, "hone(2, MAX)", x.hone(2, MAX), 1);
        due.is("of(2, 3)", x.of(2, 3), MAX);
        due.refused(x, "hone(0, 1)", x.hone(0, 1), CAST);
        due.refused(x, "hone(3, 1)", x.hone(3, 1), CAST);
        due.refused(x, "hone(4, 1)", x.hone(4, 1), NOTHING);
        for (int hook : NO_HOOKS) {
            due.refused(x, "hone(no hook, 1)", x.hone(hook, 1), UNKNOWN);
        }
    }

    // Promise 11
    private static void useOfEachKind() {
        ToolRoom x = withEachKind();
        due.fine(x, "use(0, 6)", x.use(0, 6), 12);
        due.fine(x, "use(0, -2)", x.use(0, -2), -4);
        due.is("of(0, 1)", x.of(0, 1), 4);
        due.fine(x, "use(1, 30)", x.use(1, 30), 30);
        due.is("of(1, 1)", x.of(1, 1), 0);
        due.is("of(1, 3)", x.of(1, 3), 70);
        due.fine(x, "use(2, 30)", x.use(2, 30), 31);
        due.is("of(2, 1)", x.of(2, 1), 0);
        due.is("of(2, 3)", x.of(2, 3), 71);
        due.fine(x, "use(2, -1) tells 0", x.use(2, -1), 0);
        due.fine(x, "use(3, 30)", x.use(3, 30), 0);
        due.fine(x, "use(3, -9)", x.use(3, -9), 1);
        due.is("of(3, 1)", x.of(3, 1), 2);
        due.is("count(7)", x.count(7), 7);
    }

    private static void useWraps() {
        ToolRoom x = withEachKind();
        due.fine(x, "use(0, MAX)", x.use(0, MAX), -2);
        due.is("of(0, 2)", x.of(0, 2), MIN + 49);
        due.fine(x, "use(0, 1)", x.use(0, 1), 2);
        due.is("of(0, 1)", x.of(0, 1), MIN);
        due.fine(x, "use(1, MIN)", x.use(1, MIN), MIN);
        due.is("of(1, 3)", x.of(1, 3), MIN + 100);
        due.fine(x, "use(2, MAX)", x.use(2, MAX), MIN);
        due.is("of(2, 3)", x.of(2, 3), MIN + 102);
    }

    private static void useRefused() {
        ToolRoom x = withEachKind();
        due.zero(x, "use(4, 1)", x.use(4, 1), NOTHING);
        for (int hook : NO_HOOKS) {
            due.zero(x, "use(no hook, 1)", x.use(hook, 1), UNKNOWN);
        }
        due.is("count(7): none was made", x.count(7), 0);
        due.is("count(1)", x.count(1), 1);
    }

    // Promise 12
    private static void shift() {
        ToolRoom x = withEachKind();
        x.tray(3, 4);
        x.put(3, 3, 44);
        due.fine(x, "shift(0, 3, 5, 3)", x.shift(0, 3, 5, 3), 3);
        due.is("get(3, 0)", x.get(3, 0), 10);
        due.is("get(3, 1)", x.get(3, 1), 5);
        due.is("get(3, 2)", x.get(3, 2), 6);
        due.is("get(3, 3)", x.get(3, 3), 44);
        due.is("of(0, 1)", x.of(0, 1), 5);
        due.is("of(1, 3)", x.of(1, 3), 95);
        due.is("of(2, 3)", x.of(2, 3), 96);
        due.is("count(7)", x.count(7), 3);
        x.use(3, 0);
        due.fine(x, "shift(3, 1, 5, 3): items from 0 on", x.shift(3, 1, 5, 3), 1);
        due.is("get(3, 0)", x.get(3, 0), 1);
        due.fine(x, "shift(9, 0, 5, 0): no time at all", x.shift(9, 0, 5, 0), 0);
        for (int hook = 0; hook < 10; hook++) {
            x.tool(hook, 1);
        }
        x.tray(1, 20);
        due.fine(x, "shift(0, 9, 2, 1)", x.shift(0, 9, 2, 1), 9);
        due.is("get(1, 8)", x.get(1, 8), 2);
        due.is("get(1, 9)", x.get(1, 9), 0);
        due.is("of(9, 3)", x.of(9, 3), 100);
        due.fine(x, "shift(1, 9, 2, 1)", x.shift(1, 9, 2, 1), 9);
        due.is("of(9, 3)", x.of(9, 3), 98);
        x.hang(1, 0);
        due.fine(x, "shift(0, 2, 2, 1): one tool twice", x.shift(0, 2, 2, 1), 2);
        due.is("of(0, 3)", x.of(0, 3), 94);
    }

    private static void shiftFailures() {
        ToolRoom x = withEachKind();
        x.tool(9, 3);
        x.tray(0, 2);
        due.refused(x, "shift(9, 2, 1, 0): no such hook", x.shift(9, 2, 1, 0), INDEX);
        due.is("of(9, 1): the first time stays", x.of(9, 1), 1);
        due.refused(x, "shift(3, 2, 1, 0): no tool", x.shift(3, 2, 1, 0), NOTHING);
        due.is("of(3, 1): the first time stays", x.of(3, 1), 1);
        due.refused(x, "shift(0, 1, 9, 1): no tray", x.shift(0, 1, 9, 1), NOTHING);
        due.is("of(0, 1): the use stays", x.of(0, 1), 9);
        due.refused(x, "shift(0, 4, 1, 0): no such item", x.shift(0, 4, 1, 0), INDEX);
        due.is("get(0, 0)", x.get(0, 0), 2);
        due.is("get(0, 1)", x.get(0, 1), 1);
        due.is("of(2, 3): the use stays", x.of(2, 3), 100);
        due.is("of(3, 1): no time behind the failure", x.of(3, 1), 1);
        due.is("count(7)", x.count(7), 6);
        due.is("count(1)", x.count(1), 2);
        due.is("count(2)", x.count(2), 2);
        due.is("count(0)", x.count(0), 2);
    }

    private static void shiftOrder() {
        ToolRoom x = new ToolRoom();
        x.tool(9, 3);
        for (int hook : NO_HOOKS) {
            due.refused(x, "shift(no hook, 10, 1, 0)", x.shift(hook, 10, 1, 0), UNKNOWN);
        }
        for (int tray : new int[] {-1, 4, MAX, MIN}) {
            due.refused(x, "shift(9, 1, 1, no tray)", x.shift(9, 1, 1, tray), UNKNOWN);
            due.refused(x, "shift(9, -1, 1, no tray)", x.shift(9, -1, 1, tray), UNKNOWN);
            due.refused(x, "shift(9, 0, 1, no tray)", x.shift(9, 0, 1, tray), UNKNOWN);
        }
        for (int n : new int[] {-1, 10, MAX, MIN}) {
            due.refused(x, "shift(9, " + n + ", 1, 0)", x.shift(9, n, 1, 0), OUTSIDE);
        }
        due.is("of(9, 1): nothing was done", x.of(9, 1), 0);
        x.tray(0, 0);
        due.refused(x, "shift(8, 1, 1, 0): no tool, no item", x.shift(8, 1, 1, 0), NOTHING);
        due.refused(x, "shift(9, 2, 1, 0): no item, then no hook", x.shift(9, 2, 1, 0), INDEX);
        due.is("count(7)", x.count(7), 1);
        x.tray(0, 1);
        due.refused(x, "shift(9, 2, 1, 0): no hook, no item", x.shift(9, 2, 1, 0), INDEX);
        due.is("count(7)", x.count(7), 2);
        x.lose(0, 0);
        due.refused(x, "shift(9, 2, 1, 0): no tray, then no hook", x.shift(9, 2, 1, 0), NOTHING);
    }
}
