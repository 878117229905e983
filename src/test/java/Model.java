import java.util.ArrayList;
import java.util.HashMap;
import java.util.List;
import java.util.Map;

/**
 * The document once more, told another way than in ToolRoom: state in maps and lists that
 * are made anew, refusals as exceptions. It is slow and makes many objects, so it serves
 * as a second opinion only.
 */
final class Model {
    static final int UNKNOWN = -2, OUTSIDE = -3;
    private static final int NOTHING = -11, INDEX = -12, SIZE = -13, CAST = -14, STORE = -15, ALARM = -16;

    @SuppressWarnings("serial")
    private static final class Refusal extends RuntimeException {
        final int code;

        Refusal(int code) {
            this.code = code;
        }
    }

    private static final class AnyTool {
        final int kind;
        int wear, edge = 100;
        Integer card;

        AnyTool(int kind) {
            this.kind = kind;
        }

        boolean is(int sort) {
            return sort == 0 || sort == 1 && (kind == 1 || kind == 2) || sort == 2 && kind == 3;
        }
    }

    private record AnyRack(int sort, AnyTool[] places) { }

    private final Map<Integer, AnyTool> hooks = new HashMap<>();
    private final Map<Integer, int[]> trays = new HashMap<>();
    private final Map<Integer, AnyRack> racks = new HashMap<>();
    private final Map<Integer, List<int[]>> grids = new HashMap<>();
    private final Map<Integer, Integer> alarms = new HashMap<>();
    private final List<Integer> failures = new ArrayList<>();
    private int uses = 0;
    private int why = 0;

    /** What the call number c (in the order of the document's face) with these arguments answers. */
    int answer(int c, int[] a) {
        if (c == 26) {
            return why;
        }
        if (c == 27) {
            return counted(a[0]);
        }
        try {
            why = 0;
            return carriedOut(c, a);
        } catch (Refusal refusal) {
            if (refusal.code <= NOTHING) {
                failures.add(-10 - refusal.code);
            }
            why = refusal.code == ALARM ? alarms.get(a[0]) : refusal.code;
            boolean isZero = c == 7 || c == 9 || c == 14 || c == 22;
            return isZero ? 0 : refusal.code;
        }
    }

    private int counted(int what) {
        if (what < 0 || what > 7) {
            return OUTSIDE;
        }
        if (what == 0) {
            return failures.isEmpty() ? 0 : failures.get(failures.size() - 1);
        }
        return what == 7 ? uses : (int) failures.stream().filter(f -> f == what).count();
    }

    private int carriedOut(int c, int[] a) {
        switch (c) {
            case 0: known(a[0], 9); outside(a[1] < 0 || a[1] > 3); return bit(hooks.put(a[0], new AnyTool(a[1])) != null);
            case 1: known(a[0], 9); known(a[1], 9); return hung(a[0], hooks.get(a[1]));
            case 2: known(a[0], 9); return bit(hooks.remove(a[0]) != null);
            case 3: known(a[0], 9); return hooks.containsKey(a[0]) ? hooks.get(a[0]).kind : -1;
            case 4: toolOn(a[0]).card = a[1]; return 1;
            case 5: toolOn(a[0]).card = null; return 1;
            case 6: there(toolOn(a[0]).card); hooks.get(a[0]).card = a[1]; return 1;
            case 7: return told(a[0], a[1]);
            case 8: bladeOn(a[0]).edge = a[1]; return 1;
            case 9: return used(toolOn(a[0]), a[1]);
            case 10: return shifted(a[0], a[1], a[2], a[3]);
            case 11: known(a[0], 3); outside(a[1] > 20); sized(a[1]); trays.put(a[0], new int[a[1]]); return a[1];
            case 12: return bit(allOf(a[0], a[1]).remove(a[1]) != null);
            case 13: known(a[0], 3); item(trays.get(a[0]), a[1])[a[1]] = a[2]; return 1;
            case 14: known(a[0], 3); return item(trays.get(a[0]), a[1])[a[1]];
            case 15: return sizeOf(there(allOf(a[0], a[1]).get(a[1])));
            case 16: return racked(a[0], a[1], a[2]);
            case 17: return laid(a[0], a[1], a[2]);
            case 18: return fetched(a[0], a[1], a[2], a[3]);
            case 19: return gridded(a[0], a[1], a[2]);
            case 20: return bit(rowsWith(a[0], a[1]).set(a[1], null) != null);
            case 21: item(rowsWith(a[0], a[1]).get(a[1]), a[2])[a[2]] = a[3]; return 1;
            case 22: return item(rowsWith(a[0], a[1]).get(a[1]), a[2])[a[2]];
            case 23: known(a[0], 3); return bit(alarms.put(a[0], a[1]) == null);
            case 24: known(a[0], 3); return bit(alarms.remove(a[0]) != null);
            default: known(a[0], 3); there(alarms.get(a[0])); throw new Refusal(ALARM);
        }
    }

    private static int bit(boolean so) {
        return so ? 1 : 0;
    }

    private static void refuseIf(boolean so, int code) {
        if (so) {
            throw new Refusal(code);
        }
    }

    private static void known(int number, int last) {
        refuseIf(number < 0 || number > last, UNKNOWN);
    }

    private static void outside(boolean so) {
        refuseIf(so, OUTSIDE);
    }

    private static void sized(int n) {
        refuseIf(n < 0, SIZE);
    }

    private static <T> T there(T thing) {
        refuseIf(thing == null, NOTHING);
        return thing;
    }

    private static int[] item(int[] row, int i) {
        refuseIf(row == null, NOTHING);
        refuseIf(i < 0 || i >= row.length, INDEX);
        return row;
    }

    private AnyTool toolOn(int hook) {
        known(hook, 9);
        return there(hooks.get(hook));
    }

    private AnyTool bladeOn(int hook) {
        refuseIf(!toolOn(hook).is(1), CAST);
        return hooks.get(hook);
    }

    private int hung(int hook, AnyTool tool) {
        hooks.remove(hook);
        if (tool != null) {
            hooks.put(hook, tool);
        }
        return bit(tool != null);
    }

    private int told(int hook, int what) {
        known(hook, 9);
        outside(what < 0 || what > 3);
        AnyTool tool = toolOn(hook);
        switch (what) {
            case 0: return there(tool.card);
            case 1: return tool.wear;
            case 2: return tool.kind == 0 ? 50 + tool.wear : tool.kind == 1 ? 10 : tool.kind == 2 ? 12 : 5;
            default: return bladeOn(hook).edge;
        }
    }

    private int used(AnyTool tool, int f) {
        uses++;
        int before = tool.wear;
        switch (tool.kind) {
            case 0: tool.wear = before + f; return f + f;
            case 1: tool.edge = tool.edge - f; return f + before;
            case 2: tool.edge = tool.edge - f + 1; return f + before + 1;
            default: tool.wear = before + 1; return before;
        }
    }

    private int shifted(int h, int n, int f, int t) {
        known(h, 9);
        known(t, 3);
        outside(n < 0 || n > 9);
        for (int k = 0; k < n; k++) {
            refuseIf(h + k > 9, INDEX);
            int told = used(toolOn(h + k), f);
            item(trays.get(t), k)[k] = told;
        }
        return n;
    }

    private Map<Integer, ?> allOf(int what, int k) {
        outside(what < 0 || what > 2);
        known(k, what == 2 ? 1 : 3);
        return what == 0 ? trays : what == 1 ? racks : grids;
    }

    private static int sizeOf(Object holder) {
        if (holder instanceof int[] tray) {
            return tray.length;
        }
        return holder instanceof AnyRack rack ? rack.places.length : ((List<?>) holder).size();
    }

    private int racked(int r, int sort, int n) {
        known(r, 3);
        outside(sort < 0 || sort > 2 || n > 10);
        sized(n);
        racks.put(r, new AnyRack(sort, new AnyTool[n]));
        return n;
    }

    private AnyRack rackWith(int r, int i) {
        AnyRack rack = there(racks.get(r));
        refuseIf(i < 0 || i >= rack.places.length, INDEX);
        return rack;
    }

    private int laid(int r, int i, int hook) {
        known(r, 3);
        known(hook, 9);
        AnyRack rack = rackWith(r, i);
        AnyTool tool = hooks.get(hook);
        refuseIf(tool != null && !tool.is(rack.sort), STORE);
        rack.places[i] = tool;
        return 1;
    }

    private int fetched(int r, int i, int sort, int hook) {
        known(r, 3);
        known(hook, 9);
        outside(sort < 0 || sort > 2);
        AnyTool tool = rackWith(r, i).places[i];
        refuseIf(tool != null && !tool.is(sort), CAST);
        hung(hook, tool);
        return 1;
    }

    private int gridded(int g, int n, int m) {
        known(g, 1);
        outside(n > 8 || m > 8);
        sized(n);
        sized(m);
        List<int[]> rows = new ArrayList<>();
        for (int i = 0; i < n; i++) {
            rows.add(new int[m]);
        }
        grids.put(g, rows);
        return n;
    }

    private List<int[]> rowsWith(int g, int i) {
        known(g, 1);
        List<int[]> rows = there(grids.get(g));
        refuseIf(i < 0 || i >= rows.size(), INDEX);
        return rows;
    }
}
