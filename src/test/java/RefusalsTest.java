import java.util.ArrayList;
import java.util.List;
import java.util.function.ToIntFunction;

/** The Terms' sentences on refusals: their order, and that they change nothing; and what is blindly in vain changes nothing. */
public final class RefusalsTest {
    private static final int UNKNOWN = LabelKernel.UNKNOWN, OUTSIDE = LabelKernel.OUTSIDE;
    private static final int DENIED = LabelKernel.DENIED, FULL = LabelKernel.FULL;
    private static final int MIN = Check.MIN, MAX = Check.MAX;

    private record Call(String name, int due, ToIntFunction<LabelKernel> on) {
    }

    private final List<Call> calls = new ArrayList<>();
    private final boolean spent;
    private int due;

    private RefusalsTest(boolean spent) {
        this.spent = spent;
    }

    public static void main(String[] args) {
        RefusalsTest busy = new RefusalsTest(false);
        busy.processesInOrder();
        busy.spawnAndExitInOrder();
        busy.endpointsInOrder();
        busy.messagesInOrder();
        busy.makingInOrder();
        busy.removingAndSeeingInOrder();
        busy.writingInOrder();
        busy.boundsOfTheRest();
        busy.blindlyInVain();
        busy.answerAndChangeNothing();
        RefusalsTest spent = new RefusalsTest(true);
        spent.whereAllNumbersAreGiven();
        spent.answerAndChangeNothing();
        Check.end();
    }

    private LabelKernel world() {
        return spent ? World.spent() : World.busy();
    }

    private void refused(int code) {
        due = code;
    }

    private void by(String name, ToIntFunction<LabelKernel> on) {
        calls.add(new Call(name, due, on));
    }

    private void answerAndChangeNothing() {
        Check.sentence("What is refused changes nothing.");
        List<Integer> seen = World.seen(world());
        LabelKernel told = world();
        told.crash(100);
        List<Integer> seenWithCrash = World.seen(told);
        Check.holds("a crash can be seen", !seen.equals(seenWithCrash));
        for (Call call : calls) {
            Check.sentence(refusalsOf(call.name.substring(0, call.name.indexOf('('))));
            LabelKernel k = world();
            Check.due(call.name, call.on.applyAsInt(k), call.due);
            Check.holds(call.name + " changes nothing", World.seen(k).equals(seen));
            LabelKernel crashing = world();
            crashing.crash(100);
            Check.due(call.name + ", a crash being told,", call.on.applyAsInt(crashing), call.due);
            Check.holds(call.name + " leaves the crash told", World.seen(crashing).equals(seenWithCrash));
        }
    }

    private static String refusalsOf(String method) {
        switch (method) {
            case "tag": return "A TAG of a KIND, made by PROCESS p: its number. UNKNOWN, OUTSIDE, FULL.";
            case "everybody": return "EVERYBODY's PLUS (what = 0), MINUS (1). OUTSIDE.";
            case "told": return "5 how many ENDPOINTS it has that are open, 6 BOTH. UNKNOWN, OUTSIDE.";
            case "label": return "UNKNOWN, OUTSIDE (what, the SET); DENIED: the CHANGE is not SAFE; an ENDPOINT would not be as section 2 tells.";
            case "drop": return "UNKNOWN, OUTSIDE; DENIED: an ENDPOINT would not be as told.";
            case "spawn": return "UNKNOWN, OUTSIDE (SETS); DENIED: a CHANGE of p's SECRETS, or SEALS into these is not SAFE for p; "
                + "p does not OWN all of plus, or of minus; FULL.";
            case "exit": return "how many were open. UNKNOWN; DENIED: 0.";
            case "endpoint": return "An ENDPOINT of PROCESS p with a LABEL: its number. UNKNOWN, OUTSIDE, DENIED (section 2), FULL.";
            case "close": return "how many MESSAGES were in its QUEUE. UNKNOWN; DENIED: it is another one's.";
            case "port": return "3 MESSAGES in its QUEUE. UNKNOWN, OUTSIDE.";
            case "send": return "UNKNOWN (p, e), OUTSIDE (f, SETS); DENIED: e is another one's; p does not OWN all of the SETS.";
            case "receive": return "1; 0: there is none. UNKNOWN; DENIED: e is another one's.";
            case "message": return "0 before one. UNKNOWN, OUTSIDE.";
            case "container": return "UNKNOWN (also: c is a FILE), OUTSIDE (SETS; BLOCKS 0 .. 200, OBJECTS 0 .. 50); DENIED; "
                + "FULL: 60 OBJECTS; c has not so much LEFT; CRASHED.";
            case "file": return "UNKNOWN (also: c is a FILE), OUTSIDE, DENIED, FULL, CRASHED.";
            case "remove": return "UNKNOWN; DENIED: CONTAINER 0; p can't READ and WRITE that in which it stands; CRASHED.";
            case "write": return "UNKNOWN (also a CONTAINER), OUTSIDE (i not 0 .. 31), DENIED (p can't WRITE it), behind that "
                + "OUTSIDE (unless BLIND: i is above how many it has), FULL (unless BLIND: the CONTAINER has no BLOCK LEFT), CRASHED.";
            case "append": return "UNKNOWN, OUTSIDE (n), DENIED, FULL (unless BLIND: more than 32 NUMBERS, or not so many BLOCKS LEFT), CRASHED.";
            case "read": return "UNKNOWN (also a CONTAINER), DENIED (p can't READ it), OUTSIDE (no such NUMBER), in this order.";
            case "object": return "UNKNOWN, OUTSIDE; DENIED: what is 4 to 6, and p can't READ it; what is 0 to 3, and p can't READ "
                + "the CONTAINER in which it stands.";
            case "list": return "NONE. UNKNOWN (also a FILE); DENIED: p can't READ it.";
            case "crash": return "with n = NONE none is told any more. OUTSIDE.";
            case "count": return "6 MESSAGES that got lost. OUTSIDE.";
            default: return "BLIND: what a PROCESS does to a FILE that it can WRITE but not READ is answered as if it had been done";
        }
    }

    private void processesInOrder() {
        refused(UNKNOWN);
        by("tag(3, 0)", k -> k.tag(3, 0));
        by("tag(3, 3)", k -> k.tag(3, 3));
        by("tag(-1, -1)", k -> k.tag(-1, -1));
        by("told(3, 0)", k -> k.told(3, 0));
        by("told(5, 7)", k -> k.told(5, 7));
        by("label(3, 0, 0)", k -> k.label(3, 0, 0));
        by("label(3, 2, 0)", k -> k.label(3, 2, 0));
        by("label(5, 0, 16)", k -> k.label(5, 0, 16));
        by("drop(3, 0, 0)", k -> k.drop(3, 0, 0));
        by("drop(3, 2, 0)", k -> k.drop(3, 2, 0));
        by("drop(5, 1, -1)", k -> k.drop(5, 1, -1));
        refused(OUTSIDE);
        by("tag(0, -1)", k -> k.tag(0, -1));
        by("tag(0, 3)", k -> k.tag(0, 3));
        by("told(0, -1)", k -> k.told(0, -1));
        by("told(0, 7)", k -> k.told(0, 7));
        by("label(0, -1, 0)", k -> k.label(0, -1, 0));
        by("label(2, 2, 0)", k -> k.label(2, 2, 0));
        by("label(2, 0, 16)", k -> k.label(2, 0, 16));
        by("label(2, 1, 18)", k -> k.label(2, 1, 18));
        by("label(1, 0, MIN)", k -> k.label(1, 0, MIN));
        by("drop(0, -1, 0)", k -> k.drop(0, -1, 0));
        by("drop(1, 2, 4)", k -> k.drop(1, 2, 4));
        by("drop(1, 0, 20)", k -> k.drop(1, 0, 20));
        by("drop(1, 1, MIN + 4)", k -> k.drop(1, 1, MIN + 4));
        refused(DENIED);
        by("label(2, 0, 0)", k -> k.label(2, 0, 0));
        by("label(2, 0, 5)", k -> k.label(2, 0, 5));
        by("label(2, 1, 2)", k -> k.label(2, 1, 2));
        by("label(1, 0, 1)", k -> k.label(1, 0, 1));
        by("drop(1, 0, 4)", k -> k.drop(1, 0, 4));
        by("drop(1, 0, 15)", k -> k.drop(1, 0, 15));
        by("drop(1, 1, 4)", k -> k.drop(1, 1, 4));
        by("drop(0, 1, 8)", k -> k.drop(0, 1, 8));
    }

    private void spawnAndExitInOrder() {
        refused(UNKNOWN);
        by("spawn(3, 0, 0, 0, 0)", k -> k.spawn(3, 0, 0, 0, 0));
        by("spawn(3, 16, 0, 0, 0)", k -> k.spawn(3, 16, 0, 0, 0));
        by("spawn(5, 0, 0, 0, -1)", k -> k.spawn(5, 0, 0, 0, -1));
        by("exit(3)", k -> k.exit(3));
        by("exit(-1)", k -> k.exit(-1));
        refused(OUTSIDE);
        by("spawn(2, 16, 0, 0, 0)", k -> k.spawn(2, 16, 0, 0, 0));
        by("spawn(2, 0, 16, 0, 0)", k -> k.spawn(2, 0, 16, 0, 0));
        by("spawn(2, 0, 0, 20, 0)", k -> k.spawn(2, 0, 0, 20, 0));
        by("spawn(2, 0, 0, 4, MIN)", k -> k.spawn(2, 0, 0, 4, MIN));
        refused(DENIED);
        by("spawn(2, 0, 0, 0, 0)", k -> k.spawn(2, 0, 0, 0, 0));
        by("spawn(2, 1, 4, 0, 0)", k -> k.spawn(2, 1, 4, 0, 0));
        by("spawn(2, 1, 0, 1, 0)", k -> k.spawn(2, 1, 0, 1, 0));
        by("spawn(2, 1, 0, 0, 2)", k -> k.spawn(2, 1, 0, 0, 2));
        by("spawn(1, 0, 0, 13, 0)", k -> k.spawn(1, 0, 0, 13, 0));
        by("spawn(1, 0, 0, 0, 14)", k -> k.spawn(1, 0, 0, 0, 14));
        by("exit(0)", k -> k.exit(0));
    }

    private void endpointsInOrder() {
        refused(UNKNOWN);
        by("endpoint(3, 0, 0)", k -> k.endpoint(3, 0, 0));
        by("endpoint(3, 16, 0)", k -> k.endpoint(3, 16, 0));
        by("endpoint(5, 0, MIN)", k -> k.endpoint(5, 0, MIN));
        by("close(3, 0)", k -> k.close(3, 0));
        by("close(0, 3)", k -> k.close(0, 3));
        by("close(1, 3)", k -> k.close(1, 3));
        by("close(0, 5)", k -> k.close(0, 5));
        by("close(-1, -1)", k -> k.close(-1, -1));
        by("port(3, 0)", k -> k.port(3, 0));
        by("port(3, 4)", k -> k.port(3, 4));
        by("port(-1, -1)", k -> k.port(-1, -1));
        refused(OUTSIDE);
        by("endpoint(0, 16, 0)", k -> k.endpoint(0, 16, 0));
        by("endpoint(2, 16, 0)", k -> k.endpoint(2, 16, 0));
        by("endpoint(2, 5, -1)", k -> k.endpoint(2, 5, -1));
        by("port(0, -1)", k -> k.port(0, -1));
        by("port(0, 4)", k -> k.port(0, 4));
        refused(DENIED);
        by("endpoint(2, 0, 0)", k -> k.endpoint(2, 0, 0));
        by("endpoint(2, 1, 2)", k -> k.endpoint(2, 1, 2));
        by("endpoint(1, 1, 0)", k -> k.endpoint(1, 1, 0));
        by("close(0, 1)", k -> k.close(0, 1));
        by("close(1, 0)", k -> k.close(1, 0));
    }

    private void messagesInOrder() {
        refused(UNKNOWN);
        by("send(3, 0, 1, 5, 0, 0)", k -> k.send(3, 0, 1, 5, 0, 0));
        by("send(3, 0, 40, 5, 16, 0)", k -> k.send(3, 0, 40, 5, 16, 0));
        by("send(1, 3, 0, 5, 0, 0)", k -> k.send(1, 3, 0, 5, 0, 0));
        by("send(0, 3, 40, 5, 0, 0)", k -> k.send(0, 3, 40, 5, 0, 0));
        by("send(0, 5, 0, 5, 0, -1)", k -> k.send(0, 5, 0, 5, 0, -1));
        by("send(0, -1, -1, 5, 1, 2)", k -> k.send(0, -1, -1, 5, 1, 2));
        by("receive(3, 0)", k -> k.receive(3, 0));
        by("receive(1, 3)", k -> k.receive(1, 3));
        by("receive(0, 5)", k -> k.receive(0, 5));
        by("message(3, 0)", k -> k.message(3, 0));
        by("message(3, 3)", k -> k.message(3, 3));
        refused(OUTSIDE);
        by("send(0, 0, 40, 5, 0, 0)", k -> k.send(0, 0, 40, 5, 0, 0));
        by("send(0, 0, -1, 5, 0, 0)", k -> k.send(0, 0, -1, 5, 0, 0));
        by("send(0, 1, 40, 5, 0, 0)", k -> k.send(0, 1, 40, 5, 0, 0));
        by("send(0, 1, 0, 5, 16, 0)", k -> k.send(0, 1, 0, 5, 16, 0));
        by("send(2, 2, 0, 5, 20, 0)", k -> k.send(2, 2, 0, 5, 20, 0));
        by("send(2, 2, 0, 5, 4, MIN)", k -> k.send(2, 2, 0, 5, 4, MIN));
        by("message(0, -1)", k -> k.message(0, -1));
        by("message(1, 3)", k -> k.message(1, 3));
        refused(DENIED);
        by("send(0, 1, 0, 5, 0, 0)", k -> k.send(0, 1, 0, 5, 0, 0));
        by("send(0, 1, 39, 5, 0, 0)", k -> k.send(0, 1, 39, 5, 0, 0));
        by("send(0, 0, 1, 5, 1, 0)", k -> k.send(0, 0, 1, 5, 1, 0));
        by("send(0, 0, 1, 5, 0, 2)", k -> k.send(0, 0, 1, 5, 0, 2));
        by("send(2, 2, 3, 5, 4, 0)", k -> k.send(2, 2, 3, 5, 4, 0));
        by("send(2, 2, 2, 5, 0, 4)", k -> k.send(2, 2, 2, 5, 0, 4));
        by("receive(0, 1)", k -> k.receive(0, 1));
        by("receive(1, 0)", k -> k.receive(1, 0));
        by("receive(1, 2)", k -> k.receive(1, 2));
    }

    private void makingInOrder() {
        refused(UNKNOWN);
        by("container(3, 0, 0, 0, 0, 0)", k -> k.container(3, 0, 0, 0, 0, 0));
        by("container(3, 0, 0, 0, 201, 0)", k -> k.container(3, 0, 0, 0, 201, 0));
        by("container(3, 1, 0, 0, 9, 9)", k -> k.container(3, 1, 0, 0, 9, 9));
        by("container(0, 7, 16, 0, 0, 0)", k -> k.container(0, 7, 16, 0, 0, 0));
        by("container(0, 2, 0, 0, 0, 0)", k -> k.container(0, 2, 0, 0, 0, 0));
        by("container(2, 2, 0, 0, 0, 51)", k -> k.container(2, 2, 0, 0, 0, 51));
        by("container(0, 10, 0, 0, 0, 0)", k -> k.container(0, 10, 0, 0, 0, 0));
        by("file(3, 0, 16, 0)", k -> k.file(3, 0, 16, 0));
        by("file(3, 1, 0, 0)", k -> k.file(3, 1, 0, 0));
        by("file(0, 7, 0, 16)", k -> k.file(0, 7, 0, 16));
        by("file(2, 2, 0, 0)", k -> k.file(2, 2, 0, 0));
        by("file(0, 10, 0, 0)", k -> k.file(0, 10, 0, 0));
        refused(OUTSIDE);
        by("container(0, 1, 0, 0, 201, 0)", k -> k.container(0, 1, 0, 0, 201, 0));
        by("container(0, 1, 0, 0, -1, 9)", k -> k.container(0, 1, 0, 0, -1, 9));
        by("container(2, 0, 0, 0, 0, 51)", k -> k.container(2, 0, 0, 0, 0, 51));
        by("container(2, 1, 0, 0, 0, -1)", k -> k.container(2, 1, 0, 0, 0, -1));
        by("container(2, 1, 16, 0, 0, 0)", k -> k.container(2, 1, 16, 0, 0, 0));
        by("container(0, 5, 1, MIN, 9, 0)", k -> k.container(0, 5, 1, MIN, 9, 0));
        by("file(0, 1, 16, 0)", k -> k.file(0, 1, 16, 0));
        by("file(2, 1, 16, 0)", k -> k.file(2, 1, 16, 0));
        by("file(0, 5, 0, 18)", k -> k.file(0, 5, 0, 18));
        refused(DENIED);
        by("container(0, 5, 1, 0, 200, 50)", k -> k.container(0, 5, 1, 0, 200, 50));
        by("container(2, 5, 0, 0, 0, 0)", k -> k.container(2, 5, 0, 0, 0, 0));
        by("container(2, 1, 1, 0, 9, 9)", k -> k.container(2, 1, 1, 0, 9, 9));
        by("container(4, 0, 0, 0, 0, 0)", k -> k.container(4, 0, 0, 0, 0, 0));
        by("container(0, 1, 0, 2, 9, 0)", k -> k.container(0, 1, 0, 2, 9, 0));
        by("file(0, 5, 1, 0)", k -> k.file(0, 5, 1, 0));
        by("file(2, 5, 0, 0)", k -> k.file(2, 5, 0, 0));
        by("file(2, 1, 1, 0)", k -> k.file(2, 1, 1, 0));
        by("file(4, 8, 0, 0)", k -> k.file(4, 8, 0, 0));
        by("file(0, 1, 0, 2)", k -> k.file(0, 1, 0, 2));
        refused(FULL);
        by("container(0, 1, 0, 0, 0, 0)", k -> k.container(0, 1, 0, 0, 0, 0));
        by("container(0, 0, 0, 0, 200, 0)", k -> k.container(0, 0, 0, 0, 200, 0));
        by("container(0, 0, 0, 0, 0, 50)", k -> k.container(0, 0, 0, 0, 0, 50));
        by("file(0, 1, 0, 0)", k -> k.file(0, 1, 0, 0));
        by("file(0, 8, 0, 0)", k -> k.file(0, 8, 0, 0));
    }

    private void removingAndSeeingInOrder() {
        refused(UNKNOWN);
        by("remove(3, 0)", k -> k.remove(3, 0));
        by("remove(3, 2)", k -> k.remove(3, 2));
        by("remove(2, 7)", k -> k.remove(2, 7));
        by("remove(0, 10)", k -> k.remove(0, 10));
        by("read(3, 4, 0)", k -> k.read(3, 4, 0));
        by("read(3, 2, -1)", k -> k.read(3, 2, -1));
        by("read(0, 5, 0)", k -> k.read(0, 5, 0));
        by("read(0, 7, 32)", k -> k.read(0, 7, 32));
        by("object(3, 0, 0)", k -> k.object(3, 0, 0));
        by("object(3, 0, 7)", k -> k.object(3, 0, 7));
        by("object(0, 7, 7)", k -> k.object(0, 7, 7));
        by("object(4, 10, 5)", k -> k.object(4, 10, 5));
        by("list(3, 5, 0)", k -> k.list(3, 5, 0));
        by("list(0, 4, 0)", k -> k.list(0, 4, 0));
        by("list(0, 7, 0)", k -> k.list(0, 7, 0));
        refused(DENIED);
        by("remove(0, 0)", k -> k.remove(0, 0));
        by("remove(2, 2)", k -> k.remove(2, 2));
        by("remove(2, 4)", k -> k.remove(2, 4));
        by("remove(0, 9)", k -> k.remove(0, 9));
        by("remove(4, 1)", k -> k.remove(4, 1));
        by("read(0, 4, 0)", k -> k.read(0, 4, 0));
        by("read(0, 4, -1)", k -> k.read(0, 4, -1));
        by("read(0, 4, 8)", k -> k.read(0, 4, 8));
        by("read(4, 2, 32)", k -> k.read(4, 2, 32));
        by("object(0, 4, 4)", k -> k.object(0, 4, 4));
        by("object(0, 5, 5)", k -> k.object(0, 5, 5));
        by("object(0, 9, 0)", k -> k.object(0, 9, 0));
        by("object(4, 1, 3)", k -> k.object(4, 1, 3));
        by("list(0, 5, 0)", k -> k.list(0, 5, 0));
        by("list(4, 0, 99)", k -> k.list(4, 0, 99));
        refused(OUTSIDE);
        by("read(0, 2, 5)", k -> k.read(0, 2, 5));
        by("read(0, 2, -1)", k -> k.read(0, 2, -1));
        by("read(0, 6, 32)", k -> k.read(0, 6, 32));
        by("object(0, 1, -1)", k -> k.object(0, 1, -1));
        by("object(0, 1, 7)", k -> k.object(0, 1, 7));
        by("object(0, 5, 7)", k -> k.object(0, 5, 7));
        by("object(0, 9, -1)", k -> k.object(0, 9, -1));
    }

    private void writingInOrder() {
        refused(UNKNOWN);
        by("write(3, 2, 0, 5)", k -> k.write(3, 2, 0, 5));
        by("write(3, 2, 32, 5)", k -> k.write(3, 2, 32, 5));
        by("write(0, 1, -1, 5)", k -> k.write(0, 1, -1, 5));
        by("write(0, 7, 0, 5)", k -> k.write(0, 7, 0, 5));
        by("write(2, 0, 0, 5)", k -> k.write(2, 0, 0, 5));
        by("append(3, 2, 1, 5)", k -> k.append(3, 2, 1, 5));
        by("append(3, 2, 0, 5)", k -> k.append(3, 2, 0, 5));
        by("append(0, 1, 9, 5)", k -> k.append(0, 1, 9, 5));
        by("append(0, 7, 1, 5)", k -> k.append(0, 7, 1, 5));
        by("append(2, 0, 1, 5)", k -> k.append(2, 0, 1, 5));
        refused(OUTSIDE);
        by("write(2, 2, 32, 5)", k -> k.write(2, 2, 32, 5));
        by("write(2, 2, -1, 5)", k -> k.write(2, 2, -1, 5));
        by("write(0, 2, 6, 5)", k -> k.write(0, 2, 6, 5));
        by("write(0, 3, 5, 5)", k -> k.write(0, 3, 5, 5));
        by("write(0, 4, 32, 5)", k -> k.write(0, 4, 32, 5));
        by("write(0, 6, 32, 5)", k -> k.write(0, 6, 32, 5));
        by("append(2, 2, 9, 5)", k -> k.append(2, 2, 9, 5));
        by("append(0, 6, 0, 5)", k -> k.append(0, 6, 0, 5));
        by("append(0, 3, -1, 5)", k -> k.append(0, 3, -1, 5));
        by("append(0, 4, 9, 5)", k -> k.append(0, 4, 9, 5));
        by("append(0, 4, 0, 5)", k -> k.append(0, 4, 0, 5));
        refused(DENIED);
        by("write(2, 2, 0, 5)", k -> k.write(2, 2, 0, 5));
        by("write(2, 2, 31, 5)", k -> k.write(2, 2, 31, 5));
        by("write(2, 3, 4, 5)", k -> k.write(2, 3, 4, 5));
        by("append(2, 3, 1, 5)", k -> k.append(2, 3, 1, 5));
        by("append(2, 6, 1, 5)", k -> k.append(2, 6, 1, 5));
        refused(FULL);
        by("write(0, 3, 4, 5)", k -> k.write(0, 3, 4, 5));
        by("append(0, 3, 1, 5)", k -> k.append(0, 3, 1, 5));
        by("append(0, 2, 4, 5)", k -> k.append(0, 2, 4, 5));
        by("append(0, 6, 1, 5)", k -> k.append(0, 6, 1, 5));
        by("append(0, 6, 8, 5)", k -> k.append(0, 6, 8, 5));
    }

    private void boundsOfTheRest() {
        refused(OUTSIDE);
        by("everybody(-1)", k -> k.everybody(-1));
        by("everybody(2)", k -> k.everybody(2));
        by("crash(-2)", k -> k.crash(-2));
        by("crash(101)", k -> k.crash(101));
        by("crash(MAX)", k -> k.crash(MAX));
        by("count(-1)", k -> k.count(-1));
        by("count(7)", k -> k.count(7));
    }

    /** Process 4 can write all that stands in 0 and in 1, and read nothing; process 0 can't read what is secret. */
    private void blindlyInVain() {
        refused(1);
        by("blind write(0, 4, 9, 5)", k -> k.write(0, 4, 9, 5));
        by("blind write(0, 4, 31, 5)", k -> k.write(0, 4, 31, 5));
        by("blind write(4, 2, 6, 5)", k -> k.write(4, 2, 6, 5));
        by("blind write(4, 3, 4, 5)", k -> k.write(4, 3, 4, 5));
        by("blind write(4, 3, 5, 5)", k -> k.write(4, 3, 5, 5));
        by("blind append(4, 3, 1, 5)", k -> k.append(4, 3, 1, 5));
        by("blind append(4, 2, 4, 5)", k -> k.append(4, 2, 4, 5));
        by("blind append(4, 6, 1, 5)", k -> k.append(4, 6, 1, 5));
        by("blind append(4, 6, 8, 5)", k -> k.append(4, 6, 8, 5));
    }

    private void whereAllNumbersAreGiven() {
        refused(UNKNOWN);
        by("tag(24, 0)", k -> k.tag(24, 0));
        by("tag(3, 3)", k -> k.tag(3, 3));
        by("spawn(3, 0, 0, 0, 0)", k -> k.spawn(3, 0, 0, 0, 0));
        by("endpoint(24, 0, 0)", k -> k.endpoint(24, 0, 0));
        by("container(3, 0, 0, 0, 0, 0)", k -> k.container(3, 0, 0, 0, 0, 0));
        by("container(0, 4, 0, 0, 0, 0)", k -> k.container(0, 4, 0, 0, 0, 0));
        by("file(0, 60, 0, 0)", k -> k.file(0, 60, 0, 0));
        by("file(0, 6, 0, 0)", k -> k.file(0, 6, 0, 0));
        refused(OUTSIDE);
        by("tag(0, 3)", k -> k.tag(0, 3));
        by("tag(0, -1)", k -> k.tag(0, -1));
        by("spawn(0, 1 << 24, 0, 0, 0)", k -> k.spawn(0, 1 << 24, 0, 0, 0));
        by("endpoint(0, 0, 1 << 24)", k -> k.endpoint(0, 0, 1 << 24));
        by("container(0, 0, 0, 0, 201, 0)", k -> k.container(0, 0, 0, 0, 201, 0));
        by("file(0, 0, 0, 1 << 24)", k -> k.file(0, 0, 0, 1 << 24));
        refused(DENIED);
        by("spawn(1, 2, 0, 0, 0)", k -> k.spawn(1, 2, 0, 0, 0));
        by("spawn(1, 0, 0, 1, 0)", k -> k.spawn(1, 0, 0, 1, 0));
        by("endpoint(1, 1, 0)", k -> k.endpoint(1, 1, 0));
        by("container(2, 0, 1, 0, 0, 0)", k -> k.container(2, 0, 1, 0, 0, 0));
        by("file(0, 0, 0, 1)", k -> k.file(0, 0, 0, 1));
        refused(FULL);
        by("tag(0, 0)", k -> k.tag(0, 0));
        by("tag(23, 2)", k -> k.tag(23, 2));
        by("spawn(0, 0, 0, 0, 0)", k -> k.spawn(0, 0, 0, 0, 0));
        by("endpoint(0, 0, 0)", k -> k.endpoint(0, 0, 0));
        by("endpoint(1, 0, 0)", k -> k.endpoint(1, 0, 0));
        by("container(0, 0, 0, 0, 0, 0)", k -> k.container(0, 0, 0, 0, 0, 0));
        by("container(0, 5, 0, 0, 0, 0)", k -> k.container(0, 5, 0, 0, 0, 0));
        by("file(0, 0, 0, 0)", k -> k.file(0, 0, 0, 0));
        by("file(0, 5, 1, 0)", k -> k.file(0, 5, 1, 0));
    }
}
