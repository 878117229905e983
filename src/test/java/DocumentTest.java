import java.io.IOException;
import java.lang.reflect.Constructor;
import java.lang.reflect.Field;
import java.lang.reflect.Member;
import java.lang.reflect.Method;
import java.lang.reflect.Modifier;
import java.nio.file.Files;
import java.nio.file.Path;
import java.util.ArrayList;
import java.util.List;
import java.util.Set;
import java.util.TreeSet;

/**
 * The sentences of the document that the other tests hold in part or by the way: one method for
 * each, with the sentence above it.
 */
public final class DocumentTest {
    private static final int NONE = -1, UNKNOWN = -2, OUTSIDE = -3;
    private static final int NOTHING = -11, INDEX = -12, SIZE = -13, CAST = -14, STORE = -15, ALARM = -16;
    private static final int TRAY = 0, RACK = 1, GRID = 2, HAMMER = 0, BLADE = 1, FILE = 2, GAUGE = 3, EMPTY = 5;
    private static final int NAME = 0, WEAR = 1, EDGE = 3;
    private static final int MOST_CALLS = 512;
    private static final Due due = new Due("DocumentTest");
    private static final Twins twins = new Twins(due, Twins::furnish);

    public static void main(String[] args) throws IOException {
        refusedByItsKind();
        everyCallMayBeTheLast();
        everyRefusalMayBeTheLast();
        whyAndCountMayBeTheLast();
        faceIsAsDeclared();
        interfaceSays();
        everyHookHoldsItsOwn();
        everyKindMayHaveACard();
        cardsAreTheToolsOwn();
        filesAreBladesToo();
        everyItemIsItsOwn();
        everyCellIsItsOwn();
        everyPlaceIsItsOwn();
        everyRackMayBeOfEverySort();
        toolsStayInARackAlone();
        toolsOutliveTheirRack();
        severalPlacesMayHoldTheSame();
        lostOnesMayBeMadeAnew();
        everyAlarmHasItsOwnNumber();
        shiftTellsTheLaterItemsOfOneTool();
        due.end();
    }

    private static String named(String call, int... arguments) {
        String list = java.util.Arrays.toString(arguments);
        return call + "(" + list.substring(1, list.length() - 1) + ")";
    }

    // ---- What it is

    // "what is asked of nothing, put where it does not belong, meant as what it is not, made with
    // fewer than none is refused by its kind, and what was done ahead of it stays."
    private static void refusedByItsKind() {
        twins.refused("asked of nothing", x -> x.length(TRAY, 2), NOTHING);
        twins.refused("put where it does not belong", x -> x.lay(1, 0, HAMMER), STORE);
        twins.refused("meant as what it is not", x -> x.fetch(0, 0, 1, EMPTY), CAST);
        twins.refused("made with fewer than none", x -> x.rack(0, 0, -1), SIZE);
        twins.failsBehind("what was done ahead stays", x -> x.shift(3, 9, 4, 3), NOTHING, x -> {
            x.put(3, 0, x.use(3, 4));
            x.put(3, 1, x.use(4, 4));
        });
    }

    // "An object is used for at most 512 calls after it has been made": each call, made last
    private static void everyCallMayBeTheLast() {
        last("tool(0, 3)", x -> x.tool(0, 3), 1);
        last("tool(9, 3)", x -> x.tool(9, 3), 0);
        last("hang(2, 1)", x -> x.hang(2, 1), 1);
        last("unhang(1)", x -> x.unhang(1), 1);
        last("kind(1)", x -> x.kind(1), BLADE);
        last("kind(9)", x -> x.kind(9), NONE);
        last("card(1, 4)", x -> x.card(1, 4), 1);
        last("uncard(0)", x -> x.uncard(0), 1);
        last("rename(0, 4)", x -> x.rename(0, 4), 1);
        last("of(0, 0)", x -> x.of(0, NAME), 5);
        last("hone(1, 4)", x -> x.hone(1, 4), 1);
        last("use(0, 4)", x -> x.use(0, 4), 8);
        last("shift(0, 2, 4, 0)", x -> x.shift(0, 2, 4, 0), 2);
        last("tray(0, 20)", x -> x.tray(0, 20), 20);
        last("lose(0, 0)", x -> x.lose(TRAY, 0), 1);
        last("put(0, 2, 4)", x -> x.put(0, 2, 4), 1);
        last("get(0, 1)", x -> x.get(0, 1), 8);
        last("length(0, 0)", x -> x.length(TRAY, 0), 3);
        last("rack(0, 0, 10)", x -> x.rack(0, 0, 10), 10);
        last("lay(0, 1, 1)", x -> x.lay(0, 1, 1), 1);
        last("fetch(0, 0, 1, 2)", x -> x.fetch(0, 0, 1, 2), 1);
        last("grid(0, 8, 8)", x -> x.grid(0, 8, 8), 8);
        last("strike(0, 0)", x -> x.strike(0, 0), 1);
        last("mark(0, 0, 0, 4)", x -> x.mark(0, 0, 0, 4), 1);
        last("cell(0, 1, 1)", x -> x.cell(0, 1, 1), 6);
        last("alarm(1, 4)", x -> x.alarm(1, 4), 1);
        last("calm(0)", x -> x.calm(0), 1);
        last("let(0)", x -> x.let(0), ALARM);
    }

    // "An object is used for at most 512 calls after it has been made": each refusal, met last
    private static void everyRefusalMayBeTheLast() {
        last("tool(10, 0)", x -> x.tool(10, 0), UNKNOWN);
        last("tool(0, 4)", x -> x.tool(0, 4), OUTSIDE);
        last("card(9, 4)", x -> x.card(9, 4), NOTHING);
        last("put(0, 3, 4)", x -> x.put(0, 3, 4), INDEX);
        last("tray(0, -1)", x -> x.tray(0, -1), SIZE);
        last("hone(0, 4)", x -> x.hone(0, 4), CAST);
        last("lay(0, 0, 0)", x -> x.lay(0, 0, 0), STORE);
        last("of(0, 3)", x -> x.of(0, EDGE), 0);
        last("use(9, 4)", x -> x.use(9, 4), 0);
        last("get(1, 0)", x -> x.get(1, 0), 0);
        last("cell(0, 2, 0)", x -> x.cell(0, 2, 0), 0);
    }

    // "An object is used for at most 512 calls after it has been made": what tells of the others
    private static void whyAndCountMayBeTheLast() {
        List<Twins.Call> ahead = ahead();
        ahead.add(x -> x.let(0));
        lastBehind(ahead, "why() behind let(0)", x -> x.why(), 77);
        lastBehind(ahead, "count(0) behind let(0)", x -> x.count(0), 6);
        lastBehind(ahead, "count(6) behind let(0)", x -> x.count(6), 1);
        lastBehind(ahead, "count(7)", x -> x.count(7), 0);
        lastBehind(ahead, "count(8)", x -> x.count(8), OUTSIDE);
    }

    private static void last(String name, Twins.Call call, int answer) {
        lastBehind(ahead(), name, call, answer);
    }

    private static void lastBehind(List<Twins.Call> ahead, String name, Twins.Call call, int answer) {
        ToolRoom x = new ToolRoom();
        for (int made = ahead.size() + 1; made < MOST_CALLS; made++) {
            x.kind(9);
        }
        for (Twins.Call each : ahead) {
            each.on(x);
        }
        due.is(name + " as call " + MOST_CALLS, call.on(x), answer);
    }

    private static List<Twins.Call> ahead() {
        List<Twins.Call> calls = new ArrayList<>();
        calls.add(x -> x.tool(0, HAMMER));
        calls.add(x -> x.tool(1, BLADE));
        calls.add(x -> x.card(0, 5));
        calls.add(x -> x.tray(0, 3));
        calls.add(x -> x.put(0, 1, 8));
        calls.add(x -> x.rack(0, 1, 2));
        calls.add(x -> x.lay(0, 0, 1));
        calls.add(x -> x.grid(0, 2, 2));
        calls.add(x -> x.mark(0, 1, 1, 6));
        calls.add(x -> x.alarm(0, 77));
        return calls;
    }

    // ---- The public face

    // "public final class ToolRoom { .. }": each line of it, and no other
    private static void faceIsAsDeclared() {
        Set<String> want = new TreeSet<>();
        for (String constant : new String[] {"NONE", "UNKNOWN", "OUTSIDE"}) {
            want.add("public static final int ToolRoom." + constant);
        }
        want.add("public ToolRoom()");
        for (String method : new String[] {"why()", "unhang(int)", "kind(int)", "uncard(int)", "calm(int)", "let(int)",
            "count(int)", "tool(int,int)", "hang(int,int)", "card(int,int)", "rename(int,int)", "of(int,int)",
            "hone(int,int)", "use(int,int)", "tray(int,int)", "lose(int,int)", "get(int,int)", "length(int,int)",
            "strike(int,int)", "alarm(int,int)", "put(int,int,int)", "rack(int,int,int)", "lay(int,int,int)",
            "grid(int,int,int)", "cell(int,int,int)", "shift(int,int,int,int)", "fetch(int,int,int,int)",
            "mark(int,int,int,int)"}) {
            want.add("public int ToolRoom." + method);
        }
        Set<String> has = new TreeSet<>();
        for (Field field : ToolRoom.class.getDeclaredFields()) {
            addUnlessPrivate(has, field, field.toGenericString());
        }
        for (Constructor<?> constructor : ToolRoom.class.getDeclaredConstructors()) {
            addUnlessPrivate(has, constructor, constructor.toGenericString());
        }
        for (Method method : ToolRoom.class.getDeclaredMethods()) {
            addUnlessPrivate(has, method, method.toGenericString());
        }
        due.holds("the face is the document's, not " + has, has.equals(want));
        due.holds("it is declared as public final class",
            ToolRoom.class.toGenericString().equals("public final class ToolRoom"));
        due.holds("it extends nothing", ToolRoom.class.getSuperclass() == Object.class);
        due.is("what it implements", ToolRoom.class.getInterfaces().length, 0);
    }

    private static void addUnlessPrivate(Set<String> open, Member member, String declaration) {
        if (!Modifier.isPrivate(member.getModifiers())) {
            open.add(declaration);
        }
    }

    // "Ahead of the calls `tool`, .. the interface says: ---- tools." and so for the two others
    private static void interfaceSays() throws IOException {
        String source = Files.readString(Path.of("src/main/java/ToolRoom.java"));
        int tools = source.indexOf("// ---- tools\n");
        int holders = source.indexOf("// ---- trays, racks, grids\n");
        int alarms = source.indexOf("// ---- alarms\n");
        due.holds("the three headings are there, in their order", tools >= 0 && tools < holders && holders < alarms);
        standsBetween(source, tools, holders, "tool", "hang", "unhang", "kind", "card", "uncard", "rename", "of", "hone",
            "use", "shift");
        standsBetween(source, holders, alarms, "tray", "lose", "put", "get", "length", "rack", "lay", "fetch", "grid",
            "strike", "mark", "cell");
        standsBetween(source, alarms, source.length(), "alarm", "calm", "let", "why", "count");
    }

    private static void standsBetween(String source, int from, int to, String... calls) {
        for (String call : calls) {
            int at = source.indexOf("public int " + call + "(");
            due.holds(call + " stands below its heading", at > from && at < to);
        }
    }

    // ---- Terms

    // "HOOKS 0 .. 9 hold a TOOL or nothing"; "A new TOOL": each hook's is another
    private static void everyHookHoldsItsOwn() {
        ToolRoom x = new ToolRoom();
        for (int hook = 0; hook <= 9; hook++) {
            due.fine(x, named("tool", hook, HAMMER), x.tool(hook, HAMMER), 0);
        }
        for (int hook = 0; hook <= 9; hook++) {
            due.fine(x, named("use", hook, 10 + hook), x.use(hook, 10 + hook), 20 + 2 * hook);
        }
        for (int hook = 0; hook <= 9; hook++) {
            due.fine(x, named("of", hook, WEAR), x.of(hook, WEAR), 10 + hook);
            due.fine(x, named("unhang", hook), x.unhang(hook), 1);
        }
    }

    // "each has WEAR .., perhaps a CARD with a NAME"
    private static void everyKindMayHaveACard() {
        for (int kind = 0; kind <= 3; kind++) {
            ToolRoom x = new ToolRoom();
            x.tool(7, kind);
            due.refused(x, named("rename", 7, 1) + " of kind " + kind, x.rename(7, 1), NOTHING);
            due.fine(x, named("card", 7, 8) + " of kind " + kind, x.card(7, 8), 1);
            due.fine(x, named("of", 7, NAME) + " of kind " + kind, x.of(7, NAME), 8);
            due.fine(x, named("rename", 7, 9) + " of kind " + kind, x.rename(7, 9), 1);
            due.fine(x, named("of", 7, NAME) + " of kind " + kind, x.of(7, NAME), 9);
            x.use(7, 3);
            due.fine(x, named("of", 7, NAME) + " behind use of kind " + kind, x.of(7, NAME), 9);
            due.fine(x, named("uncard", 7) + " of kind " + kind, x.uncard(7), 1);
            due.zero(x, named("of", 7, NAME) + " of kind " + kind, x.of(7, NAME), NOTHING);
        }
    }

    // "gets a new CARD": a card for each tool, not one for all
    private static void cardsAreTheToolsOwn() {
        ToolRoom x = new ToolRoom();
        for (int hook = 0; hook <= 9; hook++) {
            x.tool(hook, hook % 4);
            x.card(hook, 100 + hook);
        }
        x.rename(3, 55);
        x.uncard(4);
        x.card(5, 66);
        for (int hook = 0; hook <= 9; hook++) {
            int name = hook == 3 ? 55 : hook == 5 ? 66 : 100 + hook;
            if (hook == 4) {
                due.zero(x, named("of", hook, NAME), x.of(hook, NAME), NOTHING);
            } else {
                due.fine(x, named("of", hook, NAME), x.of(hook, NAME), name);
            }
        }
    }

    // "FILES (2, BLADES too)": they have an EDGE, are honed, laid and meant as BLADES
    private static void filesAreBladesToo() {
        ToolRoom x = new ToolRoom();
        x.tool(0, FILE);
        x.rack(0, 1, 1);
        due.fine(x, "of(0, 3)", x.of(0, EDGE), 100);
        due.fine(x, "hone(0, 50)", x.hone(0, 50), 1);
        due.fine(x, "lay(0, 0, 0)", x.lay(0, 0, 0), 1);
        due.fine(x, "fetch(0, 0, 1, 6)", x.fetch(0, 0, 1, 6), 1);
        due.fine(x, "kind(6): it is a file still", x.kind(6), FILE);
        due.fine(x, "use(6, 9): as a file", x.use(6, 9), 10);
        due.fine(x, "of(0, 3)", x.of(0, EDGE), 42);
        due.refused(x, "fetch(0, 0, 2, 6)", x.fetch(0, 0, 2, 6), CAST);
    }

    // "TRAYS 0 .. 3 are rows of ints": all of them at their most
    private static void everyItemIsItsOwn() {
        ToolRoom x = new ToolRoom();
        for (int t = 0; t <= 3; t++) {
            x.tray(t, 20);
        }
        for (int t = 0; t <= 3; t++) {
            for (int i = 0; i < 20; i++) {
                due.is(named("put", t, i), x.put(t, i, 100 * t + i + 1), 1);
            }
        }
        for (int t = 0; t <= 3; t++) {
            for (int i = 0; i < 20; i++) {
                due.fine(x, named("get", t, i), x.get(t, i), 100 * t + i + 1);
            }
        }
    }

    // "GRIDS 0, 1 rows of rows of ints": both at their most
    private static void everyCellIsItsOwn() {
        ToolRoom x = new ToolRoom();
        x.grid(0, 8, 8);
        x.grid(1, 8, 8);
        for (int at = 0; at < 128; at++) {
            due.is("mark " + at, x.mark(at / 64, at / 8 % 8, at % 8, at + 1), 1);
        }
        for (int at = 0; at < 128; at++) {
            due.fine(x, "cell " + at, x.cell(at / 64, at / 8 % 8, at % 8), at + 1);
        }
    }

    // "RACKS 0 .. 3 rows of places for TOOLS": all of them at their most
    private static void everyPlaceIsItsOwn() {
        ToolRoom x = new ToolRoom();
        for (int r = 0; r <= 3; r++) {
            x.rack(r, 0, 10);
        }
        for (int at = 0; at < 40; at++) {
            x.tool(9, at % 4);
            x.card(9, 200 + at);
            due.fine(x, named("lay", at / 10, at % 10, 9), x.lay(at / 10, at % 10, 9), 1);
        }
        for (int at = 0; at < 40; at++) {
            due.fine(x, named("fetch", at / 10, at % 10, 0, 0), x.fetch(at / 10, at % 10, 0, 0), 1);
            due.is("kind of " + at, x.kind(0), at % 4);
            due.is("name of " + at, x.of(0, NAME), 200 + at);
        }
    }

    // "places for TOOLS of a SORT (0 any, 1 BLADES, 2 GAUGES)"
    private static void everyRackMayBeOfEverySort() {
        boolean[][] isOfSort = {{true, true, true, true}, {false, true, true, false}, {false, false, false, true}};
        for (int sort = 0; sort <= 2; sort++) {
            ToolRoom x = new ToolRoom();
            for (int r = 0; r <= 3; r++) {
                due.fine(x, named("rack", r, (r + sort) % 3, 3), x.rack(r, (r + sort) % 3, 3), 3);
            }
            for (int r = 0; r <= 3; r++) {
                for (int kind = 0; kind <= 3; kind++) {
                    x.tool(2, kind);
                    due.is(named("lay", r, 2, 2) + " of kind " + kind, x.lay(r, 2, 2),
                        isOfSort[(r + sort) % 3][kind] ? 1 : STORE);
                }
            }
        }
    }

    // ---- Promises

    // "Place i of a RACK gets what a HOOK holds": when no hook holds it any more, it is there still
    private static void toolsStayInARackAlone() {
        ToolRoom x = new ToolRoom();
        x.tool(0, FILE);
        x.card(0, 31);
        x.use(0, 40);
        x.rack(2, 1, 4);
        x.lay(2, 3, 0);
        due.fine(x, "unhang(0)", x.unhang(0), 1);
        due.fine(x, "fetch(2, 3, 1, 8)", x.fetch(2, 3, 1, 8), 1);
        due.fine(x, "kind(8)", x.kind(8), FILE);
        due.fine(x, "of(8, 0)", x.of(8, NAME), 31);
        due.fine(x, "of(8, 3)", x.of(8, EDGE), 61);
        due.fine(x, "tool(8, 3)", x.tool(8, GAUGE), 1);
        due.fine(x, "fetch(2, 3, 0, 1): it stays there", x.fetch(2, 3, 0, 1), 1);
        due.fine(x, "kind(1)", x.kind(1), FILE);
    }

    // "a RACK (1) .. is missing": what lay there is on its hooks still
    private static void toolsOutliveTheirRack() {
        twins.does("lose(1, 0), then rack(0, 0, 2)", x -> x.lose(RACK, 0) * 10 + x.rack(0, 0, 2), 12,
            x -> x.lay(0, 0, EMPTY));
        ToolRoom x = new ToolRoom();
        x.tool(4, GAUGE);
        x.rack(1, 2, 1);
        x.lay(1, 0, 4);
        x.use(4, 1);
        due.fine(x, "lose(1, 1)", x.lose(RACK, 1), 1);
        due.fine(x, "use(4, 1)", x.use(4, 1), 1);
    }

    // "several may hold the same one": places, too
    private static void severalPlacesMayHoldTheSame() {
        ToolRoom x = new ToolRoom();
        x.tool(0, GAUGE);
        x.rack(0, 0, 2);
        x.rack(3, 2, 2);
        x.lay(0, 0, 0);
        x.lay(0, 1, 0);
        x.lay(3, 1, 0);
        x.fetch(0, 0, 0, 1);
        x.fetch(0, 1, 2, 2);
        x.fetch(3, 1, 2, 3);
        for (int hook = 0; hook <= 3; hook++) {
            due.fine(x, named("use", hook, 1), x.use(hook, 1), hook);
        }
        x.lay(0, 0, EMPTY);
        due.fine(x, "fetch(0, 1, 0, 9): the other place keeps it", x.fetch(0, 1, 0, 9), 1);
        due.fine(x, "of(9, 1)", x.of(9, WEAR), 4);
    }

    // "A TRAY is a new row", "A RACK is a new one", "A GRID is n rows": missing ones, too
    private static void lostOnesMayBeMadeAnew() {
        ToolRoom x = new ToolRoom();
        x.tool(0, HAMMER);
        for (int round = 0; round < 2; round++) {
            due.fine(x, "tray(2, 4)", x.tray(2, 4), 4);
            due.fine(x, "rack(2, 0, 4)", x.rack(2, 0, 4), 4);
            due.fine(x, "grid(1, 4, 4)", x.grid(1, 4, 4), 4);
            due.fine(x, "get(2, 3)", x.get(2, 3), 0);
            due.fine(x, "cell(1, 3, 3)", x.cell(1, 3, 3), 0);
            x.fetch(2, 3, 0, 9);
            due.fine(x, "place 3 is empty", x.kind(9), NONE);
            x.put(2, 3, 1);
            x.lay(2, 3, 0);
            x.mark(1, 3, 3, 1);
            for (int what = TRAY; what <= GRID; what++) {
                int k = what == GRID ? 1 : 2;
                due.fine(x, named("lose", what, k), x.lose(what, k), 1);
                due.refused(x, named("length", what, k), x.length(what, k), NOTHING);
            }
        }
    }

    // "ALARMS 0 .. 3 are there, with a number"
    private static void everyAlarmHasItsOwnNumber() {
        ToolRoom x = new ToolRoom();
        for (int k = 0; k <= 3; k++) {
            due.fine(x, named("alarm", k, 70 + k), x.alarm(k, 70 + k), 1);
        }
        for (int k = 3; k >= 0; k--) {
            due.is(named("let", k), x.let(k), ALARM);
            due.is(named("let", k) + ", why()", x.why(), 70 + k);
            due.is(named("let", k) + ", count(6)", x.count(6), 4 - k);
        }
    }

    // "the TOOL on HOOK h + k (k from 0 on) is USED with FORCE f, then item k of a TRAY becomes
    // what it told": each time is done before the next
    private static void shiftTellsTheLaterItemsOfOneTool() {
        ToolRoom x = new ToolRoom();
        x.tool(0, GAUGE);
        for (int hook = 1; hook <= 9; hook++) {
            x.hang(hook, 0);
        }
        x.tray(1, 9);
        due.fine(x, "shift(1, 9, 5, 1)", x.shift(1, 9, 5, 1), 9);
        for (int k = 0; k < 9; k++) {
            due.fine(x, named("get", 1, k), x.get(1, k), k);
        }
        due.is("count(7)", x.count(7), 9);
    }
}
