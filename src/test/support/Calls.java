import java.util.ArrayList;
import java.util.IdentityHashMap;
import java.util.LinkedHashMap;
import java.util.List;
import java.util.Map;

/**
 * Calls written as texts, for tests to extend: "change 0 0 1 5 0" is change(0, 0, 1, 5, 0). A script is
 * such calls with ; between them, each with the answer that is due behind =, or without one. 0..3 for
 * an argument stands for one call with each of these; "= 7 up" is 7 for the first, 8 for the next.
 */
abstract class Calls {
    static final int NONE = TwinWrites.NONE;
    static final int FULL = TwinWrites.FULL;
    static final int LOST = TwinWrites.LOST;
    static final int INDEX = Due.INDEX;
    static final int STATE = Due.STATE;
    static final int LEAST = Integer.MIN_VALUE;
    static final int MOST = Integer.MAX_VALUE;
    /** What an object answers behind these is free, so no test may look at it. */
    static final int CALLS_OF_ONE = 512;

    static final Due due = new Due();

    private static final Map<TwinWrites, Integer> callsOf = new IdentityHashMap<>();
    private static String sentence = "";

    /** The document's words that the tests from here on are for. */
    static void says(String words) {
        sentence = "\"" + words + "\": ";
    }

    static int call(TwinWrites x, String call) {
        String[] part = call.split(" ");
        int[] a = new int[6];
        for (int i = 1; i < part.length; i++) {
            a[i] = number(part[i]);
        }
        if (callsOf.merge(x, 1, Integer::sum) > CALLS_OF_ONE) {
            throw new AssertionError("a test uses an object for too many calls: " + call);
        }
        switch (part[0]) {
            case "change": return x.change(a[1], a[2], a[3], a[4], a[5]);
            case "read": return x.read(a[1], a[2]);
            case "got": return x.got();
            case "sync": return x.sync();
            case "checkpoint": return x.checkpoint();
            case "power":
                x.power(a[1]);
                return 0;
            case "recover": return x.recover();
            case "cut": return x.cut();
            case "disk": return x.disk(a[1], a[2], a[3]);
            case "frame": return x.frame(a[1], a[2]);
            case "count": return x.count(a[1]);
            default: throw new AssertionError("no such call: " + call);
        }
    }

    static void is(TwinWrites x, String call, int want) {
        due.is(sentence + line() + " " + call, () -> call(x, call), want);
    }

    static void go(TwinWrites x, String script) {
        for (String item : script.trim().split(" *; *")) {
            String[] half = item.split(" *= *");
            List<String> calls = expanded(half[0]);
            String[] want = half.length < 2 ? null : half[1].split(" ");
            for (int i = 0; i < calls.size(); i++) {
                String call = calls.get(i);
                if (want == null) {
                    Due.answer(() -> call(x, call));
                } else {
                    is(x, call, number(want[0]) + (want.length > 1 ? i : 0));
                }
            }
        }
    }

    /** A new object behind these calls. */
    static TwinWrites run(String script) {
        TwinWrites x = new TwinWrites();
        go(x, script);
        return x;
    }

    /** All that can be seen behind these calls, by the call that shows it. */
    static Map<String, Integer> seen(String script) {
        Map<String, Integer> all = new LinkedHashMap<>();
        TwinWrites x = run(script);
        String looks = "disk 0 0..11 0..19; disk 1 0..3 0..23; disk 2 0..11 0..3; disk 3 0 0; "
                + "frame 0..3 0..18; count 0..6; got";
        for (String look : looks.split("; ")) {
            for (String call : expanded(look)) {
                if (callsOf.getOrDefault(x, 0) == CALLS_OF_ONE) {
                    x = run(script);
                }
                TwinWrites shown = x;
                all.put(call, Due.answer(() -> call(shown, call)));
            }
        }
        return all;
    }

    static void same(Map<String, Integer> seen, Map<String, Integer> want) {
        for (String call : want.keySet()) {
            same(call, seen, want);
        }
    }

    static void same(String call, Map<String, Integer> seen, Map<String, Integer> want) {
        due.is(sentence + line() + " " + call, () -> seen.get(call), want.get(call));
    }

    static void counts(TwinWrites x, int... want) {
        for (int what = 0; what < want.length; what++) {
            is(x, "count " + what, want[what]);
        }
    }

    static void pages(TwinWrites x, int... want) {
        for (int k = 0; k < want.length; k++) {
            is(x, "frame " + k + " 0", want[k]);
        }
    }

    static void words(TwinWrites x, int k, int... want) {
        for (int i = 0; i < want.length; i++) {
            is(x, "frame " + k + " " + (3 + i), want[i]);
        }
    }

    static void record(TwinWrites x, int k, int... want) {
        for (int i = 0; i < want.length; i++) {
            is(x, "disk 2 " + k + " " + i, want[i]);
        }
    }

    private static List<String> expanded(String call) {
        List<String> calls = new ArrayList<>(List.of(""));
        for (String part : call.split(" ")) {
            List<String> longer = new ArrayList<>();
            for (String begun : calls) {
                String before = begun.isEmpty() ? "" : begun + " ";
                int dots = part.indexOf("..");
                int from = dots < 0 ? 0 : number(part.substring(0, dots));
                int to = dots < 0 ? 0 : number(part.substring(dots + 2));
                for (int i = from; i <= to; i++) {
                    longer.add(before + (dots < 0 ? part : Integer.toString(i)));
                }
            }
            calls = longer;
        }
        return calls;
    }

    private static int number(String text) {
        switch (text) {
            case "NONE": return NONE;
            case "FULL": return FULL;
            case "LOST": return LOST;
            case "INDEX": return INDEX;
            case "STATE": return STATE;
            case "LEAST": return LEAST;
            case "MOST": return MOST;
            default: return Integer.parseInt(text);
        }
    }

    private static String line() {
        return StackWalker.getInstance().walk(s -> s.filter(f -> !f.getClassName().startsWith("Calls"))
                .map(f -> f.getMethodName() + ":" + f.getLineNumber()).findFirst().orElse(""));
    }
}
