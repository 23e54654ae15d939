import java.util.Arrays;
import java.util.HashMap;
import java.util.List;
import java.util.Map;

/** Long runs of calls, the same each time, whose answers must be those of SlowKernel; every promise is met in them. */
public final class RandomRunsTest {
    private static final int RUNS = 4000;
    private static final int CALLS = 512;
    private static final int[] ODD = {-2, -1, 0, 1, 7, 24, 31, 32, 40, 60, 101, 201, Integer.MIN_VALUE, Integer.MAX_VALUE};
    private static final int[] WEIGHTS = {6, 1, 4, 9, 3, 4, 1, 5, 1, 4, 10, 8, 3, 7, 8, 2, 12, 10, 7, 8, 5, 1, 5};
    private static final String[] KINDS = {
        "pk", "w", "pw", "pms", "pmz", "psszz", "p", "pss", "pe", "ew", "pefvzz", "pe",
        "pw", "pcssbn", "pcss", "po", "pgiv", "pgnv", "pgi", "pow", "pci", "x", "w"};

    private final Map<String, Integer> met = new HashMap<>();
    private SlowKernel slow;
    private long state;
    private boolean crashes;
    private int favourite;

    public static void main(String[] args) {
        RandomRunsTest test = new RandomRunsTest();
        for (int run = 0; run < RUNS; run++) {
            test.run(run);
        }
        test.everyAnswerWasMet();
        Check.end();
    }

    private void run(int run) {
        state = 7919L * run + 1;
        slow = new SlowKernel();
        LabelKernel kernel = new LabelKernel();
        int oddness = run % 4 == 3 ? 8 : 60;
        crashes = run % 3 == 0;
        // A bound that seldom comes near is met where one call is called more than the others.
        favourite = run % WEIGHTS.length;
        for (int call = 0; call < CALLS; call++) {
            // Without tags, all labels are empty, so most runs begin with some.
            int method = call < 3 && run % 5 != 0 ? 0 : weighted();
            int[] args = args(method, oddness);
            int due = slow.call(method, args);
            int got = call(kernel, method, args);
            String name = SlowKernel.NAMES[method];
            met.merge(name + (due < -1000000 && due > -1000006 ? " " + due : " answered"), 1, Integer::sum);
            if (got != due) {
                Check.due("run " + run + ", call " + call + ": " + name + Arrays.toString(args), got, due);
                return;
            }
        }
        Check.due("run " + run, 0, 0);
    }

    /** The runs say little of a promise whose refusals never come. */
    private void everyAnswerWasMet() {
        int u = LabelKernel.UNKNOWN, o = LabelKernel.OUTSIDE, d = LabelKernel.DENIED, f = LabelKernel.FULL, c = LabelKernel.CRASHED;
        int[][] due = {{u, o, f}, {o}, {u, o}, {u, o, d}, {u, o, d}, {u, o, d, f}, {u, d}, {u, o, d, f}, {u, d}, {u, o},
            {u, o, d}, {u, d}, {u, o}, {u, o, d, f, c}, {u, o, d, f, c}, {u, d, c}, {u, o, d, f, c}, {u, o, d, f, c},
            {u, d, o}, {u, o, d}, {u, d}, {o}, {o}};
        for (int method = 0; method < due.length; method++) {
            String name = SlowKernel.NAMES[method];
            Check.holds(name + " is answered often", met.getOrDefault(name + " answered", 0) > 500);
            for (int code : due[method]) {
                Check.holds(name + " is refused by " + code, met.getOrDefault(name + " " + code, 0) > 5);
            }
        }
    }

    private int next(int bound) {
        state = state * 6364136223846793005L + 1442695040888963407L;
        return (int) ((state >>> 33) % bound);
    }

    private int weighted() {
        if (next(6) == 0) {
            return favourite;
        }
        int total = 0;
        for (int weight : WEIGHTS) {
            total += weight;
        }
        int rest = next(total);
        int method = 0;
        while (rest >= WEIGHTS[method]) {
            rest -= WEIGHTS[method];
            method++;
        }
        return method;
    }

    private int[] args(int method, int oddness) {
        String kinds = KINDS[method];
        int[] args = new int[kinds.length()];
        for (int a = 0; a < args.length; a++) {
            args[a] = next(oddness) == 0 ? ODD[next(ODD.length)] : arg(kinds.charAt(a), args[0]);
        }
        return args;
    }

    private int arg(char kind, int p) {
        switch (kind) {
            case 'p': return next(3) == 0 ? 0 : oneOf(slow.living());
            case 'e': return next(3) == 0 ? next(slow.endpoints() + 1) : oneOf(slow.openOf(p));
            case 'f': return next(slow.endpoints() + 1);
            case 'c': return next(3) == 0 ? 0 : next(8) == 0 ? next(slow.objects() + 1) : oneOf(slow.there(true));
            case 'g': return next(8) == 0 ? next(slow.objects() + 1) : oneOf(slow.there(false));
            case 'o': return next(slow.objects() + 1);
            case 'k': return next(3);
            case 'm': return next(2);
            case 'w': return next(7);
            case 's': return near(slow.hint(p, next(2)));
            case 'z': return slow.hint(p, 2 + next(2)) & next(1 << 24);
            case 'b': return next(4) == 0 ? next(201) : next(6);
            case 'n': return next(10);
            case 'i': return next(3) == 0 ? next(33) : next(8);
            case 'x': return !crashes ? -1 : next(2) == 0 ? next(14) : next(103) - 1;
            default: return next(100) - 50;
        }
    }

    private int oneOf(List<Integer> numbers) {
        return numbers.isEmpty() ? 0 : numbers.get(next(numbers.size()));
    }

    /** A set that differs little, if at all, from this one. */
    private int near(int set) {
        int changes = next(3);
        int near = next(4) == 0 ? 0 : set;
        for (int k = 0; k < changes; k++) {
            near ^= 1 << next(Math.max(1, Math.min(slow.tags(), 4)));
        }
        return near;
    }

    private static int call(LabelKernel k, int method, int[] a) {
        switch (SlowKernel.NAMES[method]) {
            case "tag": return k.tag(a[0], a[1]);
            case "everybody": return k.everybody(a[0]);
            case "told": return k.told(a[0], a[1]);
            case "label": return k.label(a[0], a[1], a[2]);
            case "drop": return k.drop(a[0], a[1], a[2]);
            case "spawn": return k.spawn(a[0], a[1], a[2], a[3], a[4]);
            case "exit": return k.exit(a[0]);
            case "endpoint": return k.endpoint(a[0], a[1], a[2]);
            case "close": return k.close(a[0], a[1]);
            case "port": return k.port(a[0], a[1]);
            case "send": return k.send(a[0], a[1], a[2], a[3], a[4], a[5]);
            case "receive": return k.receive(a[0], a[1]);
            case "message": return k.message(a[0], a[1]);
            case "container": return k.container(a[0], a[1], a[2], a[3], a[4], a[5]);
            case "file": return k.file(a[0], a[1], a[2], a[3]);
            case "remove": return k.remove(a[0], a[1]);
            case "write": return k.write(a[0], a[1], a[2], a[3]);
            case "append": return k.append(a[0], a[1], a[2], a[3]);
            case "read": return k.read(a[0], a[1], a[2]);
            case "object": return k.object(a[0], a[1], a[2]);
            case "list": return k.list(a[0], a[1], a[2]);
            case "crash": return k.crash(a[0]);
            default: return k.count(a[0]);
        }
    }
}
