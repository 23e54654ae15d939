import java.util.ArrayDeque;
import java.util.ArrayList;
import java.util.Arrays;
import java.util.List;
import java.util.Set;
import java.util.TreeSet;

/** The document told a second time, with sets of the Java library and with exceptions, for RandomRunsTest to compare with. */
final class SlowKernel {
    private static final int NONE = -1, UNKNOWN = -1000001, OUTSIDE = -1000002, DENIED = -1000003, FULL = -1000004, CRASHED = -1000005;

    static final String[] NAMES = {
        "tag", "everybody", "told", "label", "drop", "spawn", "exit", "endpoint", "close", "port", "send", "receive",
        "message", "container", "file", "remove", "write", "append", "read", "object", "list", "crash", "count"};

    private static final class Refusal extends RuntimeException {
        private static final long serialVersionUID = 1;
        private final int code;

        private Refusal(int code) {
            this.code = code;
        }
    }

    private static final class Label {
        final Set<Integer> secrets;
        final Set<Integer> seals;

        Label(Set<Integer> secrets, Set<Integer> seals) {
            this.secrets = secrets;
            this.seals = seals;
        }

        boolean flowsTo(Label other) {
            return other.secrets.containsAll(secrets) && seals.containsAll(other.seals);
        }
    }

    private static final class Proc {
        Label label = new Label(new TreeSet<>(), new TreeSet<>());
        Set<Integer> plus = new TreeSet<>();
        Set<Integer> minus = new TreeSet<>();
        Message latest = new Message(0, new TreeSet<>(), new TreeSet<>());
        int parent = NONE;
        boolean ended;
    }

    private static final class Message {
        final int value;
        final Set<Integer> plus;
        final Set<Integer> minus;

        Message(int value, Set<Integer> plus, Set<Integer> minus) {
            this.value = value;
            this.plus = plus;
            this.minus = minus;
        }
    }

    private static final class End {
        final ArrayDeque<Message> queue = new ArrayDeque<>();
        Proc owner;
        Label label;
        boolean closed;
    }

    private static final class Thing {
        final List<Integer> numbers = new ArrayList<>();
        final List<Thing> inside = new ArrayList<>();
        int number;
        boolean container;
        Label label;
        Thing home;
        int blocks;
        int objects;
        boolean gone;

        int blocksTaken() {
            return container ? blocks : (int) Math.ceil(numbers.size() / 4.0);
        }

        int blocksLeft() {
            int taken = 0;
            for (Thing one : inside) {
                taken += one.blocksTaken();
            }
            return container ? blocks - taken : 0;
        }

        int objectsLeft() {
            int taken = 0;
            for (Thing one : inside) {
                taken += 1 + one.objects;
            }
            return container ? objects - taken : 0;
        }

        List<Thing> tree() {
            List<Thing> all = new ArrayList<>();
            all.add(this);
            for (Thing one : inside) {
                all.addAll(one.tree());
            }
            return all;
        }
    }

    private final List<Integer> kinds = new ArrayList<>();
    private final List<Proc> procs = new ArrayList<>();
    private final List<End> ends = new ArrayList<>();
    private final List<Thing> things = new ArrayList<>();
    private final Set<Integer> everybodyPlus = new TreeSet<>();
    private final Set<Integer> everybodyMinus = new TreeSet<>();
    private int told = NONE;
    private int entries;
    private int crashes;
    private int lost;

    SlowKernel() {
        procs.add(new Proc());
        Thing first = new Thing();
        first.container = true;
        first.label = new Label(new TreeSet<>(), new TreeSet<>());
        first.blocks = 200;
        first.objects = 50;
        things.add(first);
    }

    int call(int method, int[] a) {
        try {
            switch (NAMES[method]) {
                case "tag": return tag(a[0], a[1]);
                case "everybody": return pick(a[0], bits(everybodyPlus), bits(everybodyMinus));
                case "told": return told(a[0], a[1]);
                case "label": return label(a[0], a[1], a[2]);
                case "drop": return drop(a[0], a[1], a[2]);
                case "spawn": return spawn(a[0], a[1], a[2], a[3], a[4]);
                case "exit": return exit(a[0]);
                case "endpoint": return endpoint(a[0], a[1], a[2]);
                case "close": return close(a[0], a[1]);
                case "port": return port(a[0], a[1]);
                case "send": return send(a);
                case "receive": return receive(a[0], a[1]);
                case "message": return message(a[0], a[1]);
                case "container": return container(a);
                case "file": return file(a[0], a[1], a[2], a[3]);
                case "remove": return remove(a[0], a[1]);
                case "write": return write(a[0], a[1], a[2], a[3]);
                case "append": return append(a[0], a[1], a[2], a[3]);
                case "read": return read(a[0], a[1], a[2]);
                case "object": return object(a[0], a[1], a[2]);
                case "list": return list(a[0], a[1], a[2]);
                case "crash": return crash(a[0]);
                default: return count(a[0]);
            }
        } catch (Refusal refusal) {
            return refusal.code;
        }
    }

    private static void refuse(boolean so, int code) {
        if (so) {
            throw new Refusal(code);
        }
    }

    private static int pick(int what, int... answers) {
        refuse(what < 0 || what >= answers.length, OUTSIDE);
        return answers[what];
    }

    static int bits(Set<Integer> set) {
        int bits = 0;
        for (int tag : set) {
            bits |= 1 << tag;
        }
        return bits;
    }

    private Set<Integer> set(int bits) {
        Set<Integer> set = new TreeSet<>();
        for (int tag = 0; tag < 32; tag++) {
            if ((bits >> tag & 1) == 1) {
                refuse(tag >= kinds.size(), OUTSIDE);
                set.add(tag);
            }
        }
        return set;
    }

    private static Set<Integer> union(Set<Integer> a, Set<Integer> b) {
        Set<Integer> all = new TreeSet<>(a);
        all.addAll(b);
        return all;
    }

    private static Set<Integer> less(Set<Integer> a, Set<Integer> b) {
        Set<Integer> rest = new TreeSet<>(a);
        rest.removeAll(b);
        return rest;
    }

    private Set<Integer> canAdd(Set<Integer> plus) {
        return union(plus, everybodyPlus);
    }

    private Set<Integer> canTake(Set<Integer> minus) {
        return union(minus, everybodyMinus);
    }

    private Set<Integer> both(Set<Integer> plus, Set<Integer> minus) {
        Set<Integer> both = canAdd(plus);
        both.retainAll(canTake(minus));
        return both;
    }

    private boolean safe(Proc p, Set<Integer> a, Set<Integer> b) {
        return canAdd(p.plus).containsAll(less(b, a)) && canTake(p.minus).containsAll(less(a, b));
    }

    private static boolean differsWithin(Label a, Label b, Set<Integer> both) {
        return both.containsAll(less(a.secrets, b.secrets)) && both.containsAll(less(b.secrets, a.secrets))
            && both.containsAll(less(a.seals, b.seals)) && both.containsAll(less(b.seals, a.seals));
    }

    private boolean endsFit(Proc p, Label label, Set<Integer> plus, Set<Integer> minus) {
        for (End end : endsOf(p)) {
            if (!differsWithin(end.label, label, both(plus, minus))) {
                return false;
            }
        }
        return true;
    }

    private List<End> endsOf(Proc p) {
        List<End> open = new ArrayList<>();
        for (End end : ends) {
            if (!end.closed && end.owner == p) {
                open.add(end);
            }
        }
        return open;
    }

    private Proc proc(int p) {
        refuse(p < 0 || p >= procs.size() || procs.get(p).ended, UNKNOWN);
        return procs.get(p);
    }

    private End end(int e) {
        refuse(e < 0 || e >= ends.size() || ends.get(e).closed, UNKNOWN);
        return ends.get(e);
    }

    private Thing thing(int o) {
        refuse(o < 0 || o >= things.size() || things.get(o).gone, UNKNOWN);
        return things.get(o);
    }

    private Thing thing(int o, boolean container) {
        Thing thing = thing(o);
        refuse(thing.container != container, UNKNOWN);
        return thing;
    }

    private static boolean reads(Proc p, Thing o) {
        return o.label.flowsTo(p.label);
    }

    private static boolean writes(Proc p, Thing o) {
        return p.label.flowsTo(o.label);
    }

    private int tag(int p, int kind) {
        Proc maker = proc(p);
        refuse(kind < 0 || kind > 2, OUTSIDE);
        refuse(kinds.size() == 24, FULL);
        int number = kinds.size();
        kinds.add(kind);
        (kind == 0 ? everybodyPlus : maker.plus).add(number);
        (kind == 1 ? everybodyMinus : maker.minus).add(number);
        return number;
    }

    private int told(int p, int what) {
        Proc of = proc(p);
        return pick(what, bits(of.label.secrets), bits(of.label.seals), bits(of.plus), bits(of.minus), of.parent,
            endsOf(of).size(), bits(both(of.plus, of.minus)));
    }

    private int label(int p, int what, int bits) {
        Proc of = proc(p);
        refuse(what != 0 && what != 1, OUTSIDE);
        Set<Integer> set = set(bits);
        Set<Integer> was = what == 0 ? of.label.secrets : of.label.seals;
        Label next = what == 0 ? new Label(set, of.label.seals) : new Label(of.label.secrets, set);
        refuse(!safe(of, was, set), DENIED);
        refuse(!endsFit(of, next, of.plus, of.minus), DENIED);
        of.label = next;
        return bits(was);
    }

    private int drop(int p, int what, int bits) {
        Proc of = proc(p);
        refuse(what != 0 && what != 1, OUTSIDE);
        Set<Integer> set = set(bits);
        Set<Integer> plus = what == 0 ? less(of.plus, set) : of.plus;
        Set<Integer> minus = what == 1 ? less(of.minus, set) : of.minus;
        refuse(!endsFit(of, of.label, plus, minus), DENIED);
        of.plus = plus;
        of.minus = minus;
        return bits(what == 0 ? plus : minus);
    }

    private int spawn(int p, int secrets, int seals, int plus, int minus) {
        Proc maker = proc(p);
        Proc made = new Proc();
        made.label = new Label(set(secrets), set(seals));
        made.plus = set(plus);
        made.minus = set(minus);
        made.parent = p;
        refuse(!safe(maker, maker.label.secrets, made.label.secrets), DENIED);
        refuse(!safe(maker, maker.label.seals, made.label.seals), DENIED);
        refuse(!maker.plus.containsAll(made.plus) || !maker.minus.containsAll(made.minus), DENIED);
        refuse(procs.size() == 24, FULL);
        procs.add(made);
        return procs.size() - 1;
    }

    private int exit(int p) {
        Proc of = proc(p);
        refuse(p == 0, DENIED);
        List<End> open = endsOf(of);
        for (End end : open) {
            end.closed = true;
        }
        of.ended = true;
        return open.size();
    }

    private int endpoint(int p, int secrets, int seals) {
        End made = new End();
        made.owner = proc(p);
        made.label = new Label(set(secrets), set(seals));
        refuse(!differsWithin(made.label, made.owner.label, both(made.owner.plus, made.owner.minus)), DENIED);
        refuse(ends.size() == 40, FULL);
        ends.add(made);
        return ends.size() - 1;
    }

    private int close(int p, int e) {
        Proc of = proc(p);
        End end = end(e);
        refuse(end.owner != of, DENIED);
        end.closed = true;
        return end.queue.size();
    }

    private int port(int e, int what) {
        End end = end(e);
        return pick(what, procs.indexOf(end.owner), bits(end.label.secrets), bits(end.label.seals), end.queue.size());
    }

    private int send(int[] a) {
        Proc of = proc(a[0]);
        End from = end(a[1]);
        refuse(a[2] < 0 || a[2] > 39, OUTSIDE);
        Message message = new Message(a[3], set(a[4]), set(a[5]));
        refuse(from.owner != of, DENIED);
        refuse(!of.plus.containsAll(message.plus) || !of.minus.containsAll(message.minus), DENIED);
        End to = a[2] < ends.size() ? ends.get(a[2]) : null;
        if (to == null || to.closed || to.queue.size() == 4 || !from.label.flowsTo(to.label)) {
            lost++;
        } else {
            to.queue.addLast(message);
        }
        return 1;
    }

    private int receive(int p, int e) {
        Proc of = proc(p);
        End end = end(e);
        refuse(end.owner != of, DENIED);
        if (end.queue.isEmpty()) {
            return 0;
        }
        of.latest = end.queue.removeFirst();
        of.plus = union(of.plus, of.latest.plus);
        of.minus = union(of.minus, of.latest.minus);
        return 1;
    }

    private int message(int p, int what) {
        Message latest = proc(p).latest;
        return pick(what, latest.value, bits(latest.plus), bits(latest.minus));
    }

    private int container(int[] a) {
        Proc maker = proc(a[0]);
        Thing made = new Thing();
        made.container = true;
        made.home = thing(a[1], true);
        made.label = new Label(set(a[2]), set(a[3]));
        made.blocks = a[4];
        made.objects = a[5];
        refuse(made.blocks < 0 || made.blocks > 200 || made.objects < 0 || made.objects > 50, OUTSIDE);
        return make(maker, made);
    }

    private int file(int p, int c, int secrets, int seals) {
        Proc maker = proc(p);
        Thing made = new Thing();
        made.home = thing(c, true);
        made.label = new Label(set(secrets), set(seals));
        return make(maker, made);
    }

    private int make(Proc maker, Thing made) {
        Thing home = made.home;
        refuse(!reads(maker, home) || !writes(maker, home), DENIED);
        refuse(!home.label.flowsTo(made.label) || !writes(maker, made), DENIED);
        refuse(things.size() == 60, FULL);
        refuse(made.blocksTaken() > home.blocksLeft() || 1 + made.objects > home.objectsLeft(), FULL);
        made.number = things.size();
        return journal(made.number, 3, () -> {
            things.add(made);
            home.inside.add(made);
        });
    }

    private int remove(int p, int o) {
        Proc of = proc(p);
        Thing thing = thing(o);
        refuse(o == 0, DENIED);
        refuse(!reads(of, thing.home) || !writes(of, thing.home), DENIED);
        List<Thing> tree = thing.tree();
        return journal(1, tree.size() + 1, () -> {
            for (Thing one : tree) {
                one.gone = true;
            }
            thing.home.inside.remove(thing);
        });
    }

    private int write(int p, int f, int i, int v) {
        Proc of = proc(p);
        Thing file = thing(f, false);
        refuse(i < 0 || i > 31, OUTSIDE);
        refuse(!writes(of, file), DENIED);
        boolean blind = !reads(of, file);
        if (i > file.numbers.size()) {
            refuse(!blind, OUTSIDE);
            return 1;
        }
        if (i == file.numbers.size()) {
            return lengthen(file, blind, 1, v);
        }
        return journal(1, 2, () -> file.numbers.set(i, v));
    }

    private int append(int p, int f, int n, int v) {
        Proc of = proc(p);
        Thing file = thing(f, false);
        refuse(n < 1 || n > 8, OUTSIDE);
        refuse(!writes(of, file), DENIED);
        return lengthen(file, !reads(of, file), n, v);
    }

    private int lengthen(Thing file, boolean blind, int n, int v) {
        int had = file.blocksTaken();
        List<Integer> next = new ArrayList<>(file.numbers);
        for (int k = 0; k < n; k++) {
            next.add(v + k);
        }
        boolean room = next.size() <= 32 && (int) Math.ceil(next.size() / 4.0) - had <= file.home.blocksLeft();
        if (!room) {
            refuse(!blind, FULL);
            return 1;
        }
        return journal(1, n + 1, () -> {
            file.numbers.clear();
            file.numbers.addAll(next);
        });
    }

    private int read(int p, int f, int i) {
        Proc of = proc(p);
        Thing file = thing(f, false);
        refuse(!reads(of, file), DENIED);
        refuse(i < 0 || i >= file.numbers.size(), OUTSIDE);
        return file.numbers.get(i);
    }

    private int object(int p, int o, int what) {
        Proc of = proc(p);
        Thing thing = thing(o);
        int answer = pick(what, thing.container ? 1 : 0, bits(thing.label.secrets), bits(thing.label.seals),
            thing.home == null ? NONE : thing.home.number, thing.numbers.size(), thing.blocksLeft(), thing.objectsLeft());
        refuse(what >= 4 && !reads(of, thing), DENIED);
        refuse(what < 4 && thing.home != null && !reads(of, thing.home), DENIED);
        return answer;
    }

    private int list(int p, int c, int i) {
        Proc of = proc(p);
        Thing container = thing(c, true);
        refuse(!reads(of, container), DENIED);
        return i >= 0 && i < container.inside.size() ? container.inside.get(i).number : NONE;
    }

    private int crash(int n) {
        refuse(n < -1 || n > 100, OUTSIDE);
        told = n;
        return 1;
    }

    private int count(int what) {
        int living = 0;
        int open = 0;
        for (Proc one : procs) {
            living += one.ended ? 0 : 1;
            open += endsOf(one).size();
        }
        return pick(what, kinds.size(), living, open, things.get(0).tree().size(), entries, crashes, lost);
    }

    private int journal(int answer, int made, Runnable changes) {
        boolean crash = told != NONE;
        if (!crash || made <= told) {
            changes.run();
            entries += made;
        }
        if (!crash) {
            return answer;
        }
        told = NONE;
        crashes++;
        for (End end : ends) {
            end.closed = true;
        }
        for (Proc one : procs) {
            one.ended = true;
        }
        procs.set(0, new Proc());
        return CRASHED;
    }

    // ---- what RandomRunsTest asks to find calls in which much happens

    int tags() {
        return kinds.size();
    }

    int endpoints() {
        return ends.size();
    }

    int objects() {
        return things.size();
    }

    List<Integer> living() {
        List<Integer> living = new ArrayList<>();
        for (int p = 0; p < procs.size(); p++) {
            if (!procs.get(p).ended) {
                living.add(p);
            }
        }
        return living;
    }

    List<Integer> there(boolean container) {
        List<Integer> there = new ArrayList<>();
        for (Thing one : things.get(0).tree()) {
            if (one.container == container) {
                there.add(one.number);
            }
        }
        return there;
    }

    List<Integer> openOf(int p) {
        List<Integer> open = new ArrayList<>();
        for (int e = 0; e < ends.size(); e++) {
            if (!ends.get(e).closed && p >= 0 && p < procs.size() && ends.get(e).owner == procs.get(p)) {
                open.add(e);
            }
        }
        return open;
    }

    /** The set that a process has as its secrets (0), seals (1), plus (2) or minus (3); 0 of none. */
    int hint(int p, int what) {
        if (p < 0 || p >= procs.size()) {
            return 0;
        }
        Proc of = procs.get(p);
        return bits(Arrays.asList(of.label.secrets, of.label.seals, of.plus, of.minus).get(what));
    }
}
