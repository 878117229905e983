/**
 * Long mixed runs of calls, each answer held against the model's. The numbers come from a
 * fixed rule, so every run is the same each time.
 */
public final class ManyRunsTest {
    private static final int RUNS = 3000, CALLS = 512;
    private static final String[] NAMES = {"tool", "hang", "unhang", "kind", "card", "uncard", "rename", "of", "hone",
        "use", "shift", "tray", "lose", "put", "get", "length", "rack", "lay", "fetch", "grid", "strike", "mark",
        "cell", "alarm", "calm", "let", "why", "count"};
    // For each call, how far each argument's ordinary numbers go (-1: any int).
    private static final int[][] REACH = {{9, 3}, {9, 9}, {9}, {9}, {9, -1}, {9}, {9, -1}, {9, 3}, {9, -1},
        {9, -1}, {9, 9, -1, 3}, {3, 20}, {2, 3}, {3, 20, -1}, {3, 20}, {2, 3}, {3, 2, 10}, {3, 10, 9}, {3, 10, 2, 9},
        {1, 8, 8}, {1, 8}, {1, 8, 8, -1}, {1, 8, 8}, {3, -1}, {3}, {3}, {}, {7}};
    private static final int[] EXTREMES = {0, 1, -1, Integer.MAX_VALUE, Integer.MIN_VALUE, 1 << 30};
    private static final Due due = new Due("ManyRunsTest");

    private static long seed = 1;

    public static void main(String[] args) {
        for (int run = 0; run < RUNS && due.isClean(); run++) {
            ToolRoom room = new ToolRoom();
            Model model = new Model();
            // Every other run seldom takes away what is there, so that fuller rooms are met, too.
            boolean keepsMost = run % 2 == 0;
            for (int i = 0; i < CALLS; i++) {
                int c = nextCall(keepsMost);
                int[] a = arguments(c);
                int want = model.answer(c, a);
                due.is("run " + run + ", call " + i + ": " + told(c, a), answer(room, c, a), want);
                due.is("run " + run + ", call " + i + ": why() behind " + told(c, a), room.why(), model.answer(26, a));
            }
            for (int what = 0; what < 8; what++) {
                due.is("run " + run + ": count(" + what + ")", room.count(what), model.answer(27, new int[] {what}));
            }
        }
        due.end();
    }

    private static int next(int bound) {
        seed = seed * 6364136223846793005L + 1442695040888963407L;
        return (int) ((seed >>> 33) % bound);
    }

    private static int nextCall(boolean keepsMost) {
        int c = next(NAMES.length);
        boolean takesAway = c == 2 || c == 12 || c == 20 || c == 24;
        return keepsMost && takesAway && next(4) != 0 ? 0 : c;
    }

    private static int[] arguments(int c) {
        int[] a = new int[REACH[c].length];
        for (int i = 0; i < a.length; i++) {
            a[i] = argument(REACH[c][i]);
        }
        return a;
    }

    private static int argument(int reach) {
        if (reach < 0) {
            return next(3) == 0 ? EXTREMES[next(EXTREMES.length)] : next(200) - 100;
        }
        switch (next(25)) {
            case 0: return -1;
            case 1: return reach + 1;
            case 2: return EXTREMES[next(EXTREMES.length)];
            default: return next(reach + 1);
        }
    }

    private static String told(int c, int[] a) {
        String list = java.util.Arrays.toString(a);
        return NAMES[c] + "(" + list.substring(1, list.length() - 1) + ")";
    }

    private static int answer(ToolRoom x, int c, int[] a) {
        switch (c) {
            case 0: return x.tool(a[0], a[1]);
            case 1: return x.hang(a[0], a[1]);
            case 2: return x.unhang(a[0]);
            case 3: return x.kind(a[0]);
            case 4: return x.card(a[0], a[1]);
            case 5: return x.uncard(a[0]);
            case 6: return x.rename(a[0], a[1]);
            case 7: return x.of(a[0], a[1]);
            case 8: return x.hone(a[0], a[1]);
            case 9: return x.use(a[0], a[1]);
            case 10: return x.shift(a[0], a[1], a[2], a[3]);
            case 11: return x.tray(a[0], a[1]);
            case 12: return x.lose(a[0], a[1]);
            case 13: return x.put(a[0], a[1], a[2]);
            case 14: return x.get(a[0], a[1]);
            case 15: return x.length(a[0], a[1]);
            case 16: return x.rack(a[0], a[1], a[2]);
            case 17: return x.lay(a[0], a[1], a[2]);
            case 18: return x.fetch(a[0], a[1], a[2], a[3]);
            case 19: return x.grid(a[0], a[1], a[2]);
            case 20: return x.strike(a[0], a[1]);
            case 21: return x.mark(a[0], a[1], a[2], a[3]);
            case 22: return x.cell(a[0], a[1], a[2]);
            case 23: return x.alarm(a[0], a[1]);
            case 24: return x.calm(a[0]);
            case 25: return x.let(a[0]);
            case 26: return x.why();
            default: return x.count(a[0]);
        }
    }
}
