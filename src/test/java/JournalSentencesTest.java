import java.util.function.ToIntFunction;

/** Each sentence of section 4 and of promises 23 and 24 that names a boundary. */
public final class JournalSentencesTest {
    private static final int NONE = LabelKernel.NONE, UNKNOWN = LabelKernel.UNKNOWN, OUTSIDE = LabelKernel.OUTSIDE;
    private static final int DENIED = LabelKernel.DENIED, FULL = LabelKernel.FULL, CRASHED = LabelKernel.CRASHED;
    private static final int SECRET = Check.SECRET, SEAL = Check.SEAL, OWN = Check.OWN;
    private static final int MIN = Check.MIN, MAX = Check.MAX;

    public static void main(String[] args) {
        entriesOfEachCall();
        entriesOfRemovedTrees();
        entriesOfNone();
        crashBetweenTheEntries();
        crashOfTheLargestCall();
        crashAtTheFirstCallThatMakesEntries();
        crashOnce();
        crashTold0To100();
        crashToldNoMore();
        crashToldAgain();
        allProcessesBut0End();
        process0IsAsAtFirst();
        process0HasTakenNoMessage();
        tagsAndEverybodyStay();
        allEndpointsAreClosed();
        anewWhereTheCallIsDone();
        cutObjectsAreNotMade();
        countWhats();
        countsWhatThereIs();
        countsEntriesOfCallsDone();
        countsCrashes();
        countsLostMessages();
        Check.end();
    }

    private static LabelKernel withFile() {
        LabelKernel k = Check.withTags(OWN);
        k.file(0, 0, 0, 0);
        return k;
    }

    private static void entriesOfEachCall() {
        Check.sentence("for each NUMBER of a FILE that is written 1, for each OBJECT that is made 2, for each one that is removed 1, and 1 more at its end;");
        LabelKernel k = new LabelKernel();
        Check.due("none at first", k.count(4), 0);
        k.container(0, 0, 0, 0, 50, 20);
        Check.due("a container", k.count(4), 3);
        k.file(0, 1, 0, 0);
        Check.due("a file", k.count(4), 6);
        k.write(0, 2, 0, 5);
        Check.due("a number at its end", k.count(4), 8);
        k.write(0, 2, 0, 5);
        Check.due("the same again", k.count(4), 10);
        int entries = 10;
        for (int n = 1; n <= 7; n++) {
            k.append(0, 2, n, 5);
            entries += n + 1;
            Check.due("append " + n, k.count(4), entries);
        }
        k.file(0, 1, 0, 0);
        k.append(0, 3, 8, 5);
        Check.due("a file and 8 numbers", k.count(4), entries + 3 + 9);
        k.remove(0, 3);
        Check.due("one removed", k.count(4), entries + 3 + 9 + 2);
    }

    private static void entriesOfRemovedTrees() {
        Check.sentence("for each one that is removed 1, and 1 more at its end;");
        for (int inside = 0; inside <= 48; inside += 6) {
            LabelKernel k = new LabelKernel();
            k.container(0, 0, 0, 0, 50, 49);
            int home = 1;
            for (int o = 0; o < inside; o++) {
                int made = o % 3 == 0 ? k.container(0, home, 0, 0, 0, 48 - o) : k.file(0, home, 0, 0);
                Check.due("made", made, o + 2);
                home = o % 3 == 0 ? made : home;
            }
            Check.due("entries", k.count(4), 3 + 3 * inside);
            Check.due("remove", k.remove(0, 1), 1);
            Check.due("entries", k.count(4), 3 + 3 * inside + inside + 2);
        }
    }

    private static void entriesOfNone() {
        Check.sentence("a call that changes none makes none.");
        LabelKernel k = Check.withTags(SECRET, SEAL, OWN);
        k.file(0, 0, 1, 0);
        k.crash(0);
        k.tag(0, OWN);
        k.everybody(0);
        k.told(0, 0);
        k.label(0, 0, 4);
        k.label(0, 0, 0);
        k.drop(0, 0, 8);
        k.spawn(0, 0, 0, 4, 4);
        k.endpoint(0, 0, 0);
        k.endpoint(1, 0, 0);
        k.port(0, 0);
        k.send(0, 0, 1, 5, 4, 4);
        k.send(0, 0, 9, 5, 0, 0);
        k.receive(1, 1);
        k.message(1, 0);
        k.close(1, 1);
        k.exit(1);
        k.object(0, 0, 5);
        k.list(0, 0, 0);
        k.count(4);
        Check.due("read, denied", k.read(0, 1, 0), DENIED);
        Check.due("remove, denied", k.remove(0, 0), DENIED);
        Check.due("remove, unknown", k.remove(0, 2), UNKNOWN);
        Check.due("container, full", k.container(0, 0, 0, 0, 0, 50), FULL);
        Check.due("file, outside", k.file(0, 0, 16, 0), OUTSIDE);
        Check.due("append, outside", k.append(0, 1, 0, 0), OUTSIDE);
        Check.due("write, blindly above", k.write(0, 1, 1, 0), 1);
        Check.due("crashes", k.count(5), 0);
        Check.due("entries", k.count(4), 3);
        Check.due("one that changes some", k.append(0, 1, 1, 0), CRASHED);
    }

    /** What the call leaves, where a crash is told ahead of it with so many entries as it makes, one less, one more. */
    private static void dueAround(String name, int entries, ToIntFunction<LabelKernel> call, ToIntFunction<LabelKernel> seen) {
        LabelKernel never = World.busy();
        LabelKernel always = World.busy();
        int before = never.count(4);
        call.applyAsInt(always);
        int notDone = seen.applyAsInt(never);
        int done = seen.applyAsInt(always);
        Check.due(name + ", entries", always.count(4), before + entries);
        Check.holds(name + " is seen", done != notDone);
        for (int n = 0; n <= 100; n += n < entries + 2 ? 1 : 49) {
            LabelKernel k = World.busy();
            k.crash(n);
            boolean cut = entries > n;
            Check.due(name + " with " + n, call.applyAsInt(k), CRASHED);
            Check.due(name + " with " + n + ", seen", seen.applyAsInt(k), cut ? notDone : done);
            Check.due(name + " with " + n + ", entries", k.count(4), cut ? before : before + entries);
            Check.due(name + " with " + n + ", crashes", k.count(5), 1);
            Check.due(name + " with " + n + ", processes", k.count(1), 1);
        }
    }

    private static void crashBetweenTheEntries() {
        Check.sentence("at the first call behind that that makes ENTRIES, when more than so many are to be made, none of its changes to OBJECTS is done; else all are.");
        dueAround("file", 3, k -> k.file(0, 0, 0, 0), k -> k.count(3));
        dueAround("container", 3, k -> k.container(0, 0, 0, 0, 7, 7), k -> k.object(0, 0, 5));
        dueAround("write", 2, k -> k.write(0, 3, 1, 1234), k -> k.read(0, 3, 1));
        dueAround("write at its end", 2, k -> k.write(0, 2, 5, 1234), k -> k.object(0, 2, 4));
        dueAround("append of 1", 2, k -> k.append(0, 2, 1, 1234), k -> k.object(0, 2, 4));
        dueAround("append of 3", 4, k -> k.append(0, 2, 3, 1234), k -> k.object(0, 2, 4));
        dueAround("blind append of 8", 9, k -> k.append(0, 4, 8, 1234), k -> k.object(0, 0, 5));
        dueAround("remove of a file", 2, k -> k.remove(0, 2), k -> k.object(0, 1, 5));
        dueAround("remove of 4", 5, k -> k.remove(0, 1), k -> k.count(3));
        dueAround("remove of 2", 3, k -> k.remove(0, 5), k -> k.object(0, 0, 6));
        dueAround("append by 2", 3, k -> k.append(2, 9, 2, 1234), k -> {
            k.label(0, 0, 1);
            return k.object(0, 9, 4);
        });
    }

    private static void crashOfTheLargestCall() {
        Check.sentence("when more than so many are to be made");
        for (int n = 49; n <= 52; n++) {
            LabelKernel k = new LabelKernel();
            k.container(0, 0, 0, 0, 200, 49);
            for (int o = 0; o < 49; o++) {
                Check.due("file", k.file(0, 1, 0, 0), o + 2);
            }
            k.crash(n);
            Check.due("remove of 50", k.remove(0, 1), CRASHED);
            Check.due("objects with " + n, k.count(3), n < 51 ? 51 : 1);
            Check.due("entries with " + n, k.count(4), n < 51 ? 150 : 201);
        }
    }

    private static void crashAtTheFirstCallThatMakesEntries() {
        Check.sentence("crash() may be told ahead: at the first call behind that that makes ENTRIES");
        LabelKernel k = withFile();
        k.crash(2);
        Check.due("a call that makes none", k.read(0, 1, 0), OUTSIDE);
        Check.due("a call that is refused", k.append(0, 1, 9, 0), OUTSIDE);
        Check.due("the first that makes some, as many as told", k.append(0, 1, 1, 5), CRASHED);
        Check.due("it is done", k.read(0, 1, 0), 5);
        Check.due("the next", k.append(0, 1, 8, 0), 1);
        Check.due("crashes", k.count(5), 1);
        k.crash(100);
        Check.due("the first that makes some, less than told", k.write(0, 1, 0, 6), CRASHED);
        Check.due("the second", k.write(0, 1, 1, 6), 1);
        Check.due("crashes", k.count(5), 2);
    }

    private static void crashOnce() {
        Check.sentence("A crash is told: it comes at the next call that makes ENTRIES");
        LabelKernel k = withFile();
        for (int n = 0; n < 10; n++) {
            Check.due("told", k.crash(n), 1);
            Check.due("it comes", k.append(0, 1, 1, n), CRASHED);
            Check.due("and no more", k.write(0, 1, 0, 50 + n), 1);
            Check.due("crashes", k.count(5), n + 1);
        }
        Check.due("numbers", k.object(0, 1, 4), 9);
    }

    private static void crashTold0To100() {
        Check.sentence("with n of them done (0 .. 100): 1;");
        LabelKernel k = withFile();
        for (int n = 0; n <= 100; n++) {
            Check.due("crash " + n, k.crash(n), 1);
        }
        Check.due("crash -1", k.crash(-1), 1);
        Check.dueForEach("crash", OUTSIDE, k::crash, -2, -3, 101, 102, 1000, MIN, MAX, MIN + 1, MAX - 1);
        Check.due("what was refused is not told", k.write(0, 1, 0, 5), 1);
    }

    private static void crashToldNoMore() {
        Check.sentence("with n = NONE none is told any more.");
        LabelKernel k = withFile();
        Check.due("where none was told", k.crash(NONE), 1);
        Check.due("none comes", k.write(0, 1, 0, 5), 1);
        k.crash(0);
        Check.due("where one was told", k.crash(NONE), 1);
        Check.due("none comes", k.append(0, 1, 8, 5), 1);
        k.crash(0);
        Check.due("a refusal does not take it back", k.crash(-2), OUTSIDE);
        Check.due("nor another one", k.crash(101), OUTSIDE);
        Check.due("it comes", k.remove(0, 1), CRASHED);
        Check.due("crashes", k.count(5), 1);
        Check.due("the file is there", k.object(0, 1, 4), 9);
    }

    private static void crashToldAgain() {
        Check.sentence("A crash is told");
        LabelKernel k = withFile();
        k.crash(100);
        k.crash(1);
        Check.due("with the less that was told last", k.write(0, 1, 0, 5), CRASHED);
        Check.due("cut", k.object(0, 1, 4), 0);
        k.crash(1);
        k.crash(2);
        Check.due("with the more that was told last", k.write(0, 1, 0, 5), CRASHED);
        Check.due("done", k.object(0, 1, 4), 1);
        Check.due("twice told is one", k.write(0, 1, 0, 6), 1);
    }

    private static void allProcessesBut0End() {
        Check.sentence("Either way the kernel starts anew right behind it: all PROCESSES but 0 END");
        for (int n = 0; n <= 3; n += 3) {
            LabelKernel k = new LabelKernel();
            for (int p = 1; p < 24; p++) {
                k.spawn(p / 2, 0, 0, 0, 0);
            }
            k.exit(5);
            k.crash(n);
            Check.due("a file by the last", k.file(23, 0, 0, 0), CRASHED);
            for (int p = 1; p < 24; p++) {
                Check.due("process " + p, k.told(p, 0), UNKNOWN);
            }
            Check.due("0", k.told(0, 4), NONE);
            Check.due("processes", k.count(1), 1);
            Check.due("numbers are not given again", k.spawn(0, 0, 0, 0, 0), FULL);
        }
    }

    private static void process0IsAsAtFirst() {
        Check.sentence("0 is as at first");
        for (int n = 0; n <= 100; n += 100) {
            LabelKernel k = Check.withTags(OWN, OWN, SECRET, SEAL);
            k.label(0, 0, 1);
            k.label(0, 1, 2);
            k.endpoint(0, 1, 0);
            k.file(0, 0, 1, 0);
            k.label(0, 1, 0);
            k.container(0, 0, 1, 0, 0, 0);
            k.label(0, 0, 0);
            k.file(0, 0, 1, 0);
            k.label(0, 0, 1);
            k.label(0, 1, 2);
            Check.dueFromZero("before", what -> k.told(0, what), 1, 2, 11, 7, NONE, 1, 15);
            k.crash(n);
            Check.due("a crash", k.append(0, 1, 1, 5), CRASHED);
            Check.dueFromZero("behind it", what -> k.told(0, what), 0, 0, 0, 0, NONE, 0, 0);
            Check.due("it can't take what it owned", k.label(0, 0, 4), 0);
            Check.due("the secret is for good", k.label(0, 0, 0), DENIED);
            Check.due("it can't add what it owned", k.label(0, 0, 5), DENIED);
        }
    }

    private static void process0HasTakenNoMessage() {
        Check.sentence("0 is as at first");
        for (int n = 0; n <= 3; n += 3) {
            LabelKernel k = Check.withTags(OWN);
            k.endpoint(0, 0, 0);
            k.endpoint(0, 0, 0);
            k.send(0, 0, 1, 5, 1, 1);
            k.receive(0, 1);
            Check.dueFromZero("message before", what -> k.message(0, what), 5, 1, 1);
            k.crash(n);
            Check.due("a crash", k.file(0, 0, 0, 0), CRASHED);
            Check.dueFromZero("message behind it", what -> k.message(0, what), 0, 0, 0);
        }
    }

    private static void tagsAndEverybodyStay() {
        Check.sentence("(TAGS and EVERYBODY's SETS stay)");
        LabelKernel k = Check.withTags(SECRET, SEAL, OWN);
        k.crash(0);
        k.file(0, 0, 0, 0);
        Check.due("tags", k.count(0), 3);
        Check.dueFromZero("everybody", k::everybody, 1, 2);
        Check.due("a set of the three", k.drop(0, 0, 7), 0);
        Check.due("a set of a fourth", k.drop(0, 0, 8), OUTSIDE);
        Check.due("the fourth", k.tag(0, OWN), 3);
        Check.due("0 owns it alone", k.told(0, 2), 8);
        LabelKernel j = new LabelKernel();
        for (int t = 0; t < 24; t++) {
            j.tag(0, OWN);
        }
        j.crash(0);
        j.file(0, 0, 0, 0);
        Check.due("a 25th", j.tag(0, OWN), FULL);
    }

    private static void allEndpointsAreClosed() {
        Check.sentence("all ENDPOINTS are closed; the call answers CRASHED.");
        for (int n = 0; n <= 3; n += 3) {
            LabelKernel k = new LabelKernel();
            k.spawn(0, 0, 0, 0, 0);
            for (int e = 0; e < 39; e++) {
                k.endpoint(e % 2, 0, 0);
            }
            k.send(0, 0, 1, 5, 0, 0);
            k.send(0, 0, 38, 5, 0, 0);
            k.crash(n);
            Check.due("the answer", k.file(1, 0, 0, 0), CRASHED);
            for (int e = 0; e < 39; e++) {
                Check.due("endpoint " + e, k.port(e, 3), UNKNOWN);
            }
            Check.due("open", k.count(2), 0);
            Check.due("of 0", k.told(0, 5), 0);
            Check.due("the last that can be", k.endpoint(0, 0, 0), 39);
            Check.due("its queue is empty", k.receive(0, 39), 0);
            Check.due("a 41st", k.endpoint(0, 0, 0), FULL);
        }
    }

    private static void anewWhereTheCallIsDone() {
        Check.sentence("else all are. Either way the kernel starts anew");
        LabelKernel k = withFile();
        k.spawn(0, 0, 0, 1, 1);
        k.crash(100);
        Check.due("done, and anew", k.append(1, 1, 3, 6), CRASHED);
        Check.dueFromZero("what was written", i -> k.read(0, 1, i), 6, 7, 8, OUTSIDE);
        Check.due("its writer ended", k.read(1, 1, 0), UNKNOWN);
        Check.due("0 does not own", k.told(0, 2), 0);
        LabelKernel j = withFile();
        j.crash(100);
        Check.due("made, and anew", j.container(0, 0, 0, 0, 20, 5), CRASHED);
        Check.dueFromZero("what was made", what -> j.object(0, 2, what), 1, 0, 0, 0, 0, 20, 5);
        j.crash(100);
        Check.due("removed, and anew", j.remove(0, 2), CRASHED);
        Check.due("what was removed", j.object(0, 2, 0), UNKNOWN);
        Check.due("its room is left", j.object(0, 0, 5), 200);
    }

    private static void cutObjectsAreNotMade() {
        Check.sentence("none of its changes to OBJECTS is done");
        LabelKernel k = withFile();
        k.append(0, 1, 8, 10);
        k.container(0, 0, 0, 0, 9, 9);
        k.file(0, 2, 0, 0);
        for (int n = 0; n < 2; n++) {
            k.crash(n);
            Check.due("append", k.append(0, 1, 8, 90), CRASHED);
            k.crash(n);
            Check.due("write", k.write(0, 1, 0, 90), CRASHED);
            k.crash(n);
            Check.due("write at its end", k.write(0, 1, 8, 90), CRASHED);
            k.crash(n);
            Check.due("file", k.file(0, 0, 0, 0), CRASHED);
            k.crash(n);
            Check.due("container", k.container(0, 0, 0, 0, 5, 5), CRASHED);
            k.crash(n);
            Check.due("remove", k.remove(0, 2), CRASHED);
        }
        Check.dueFromZero("numbers", i -> k.read(0, 1, i), 10, 11, 12, 13, 14, 15, 16, 17, OUTSIDE);
        Check.dueFromZero("0", what -> k.object(0, 0, what), 1, 0, 0, NONE, 0, 189, 39);
        Check.dueFromZero("what stands in 0", i -> k.list(0, 0, i), 1, 2, NONE);
        Check.dueFromZero("what stands in 2", i -> k.list(0, 2, i), 3, NONE);
        Check.due("entries", k.count(4), 3 + 9 + 3 + 3);
        Check.due("crashes", k.count(5), 12);
    }

    private static void countWhats() {
        Check.sentence("What = 0 TAGS");
        LabelKernel k = new LabelKernel();
        Check.dueForEach("count", OUTSIDE, k::count, -1, -2, 7, 8, 100, MIN, MAX);
        Check.dueFromZero("count", k::count, 0, 1, 0, 1, 0, 0, 0, OUTSIDE);
    }

    private static void countsWhatThereIs() {
        Check.sentence("1 PROCESSES that have not ENDED, 2 ENDPOINTS that are open, 3 OBJECTS that are there");
        LabelKernel k = new LabelKernel();
        for (int n = 0; n < 24; n++) {
            k.tag(0, n % 3);
            k.spawn(0, 0, 0, 0, 0);
        }
        for (int n = 0; n < 41; n++) {
            k.endpoint(n % 24, 0, 0);
            k.file(0, 0, 0, 0);
        }
        Check.dueFromZero("all", k::count, 24, 24, 40, 42, 123, 0, 0);
        k.exit(1);
        k.exit(23);
        Check.due("processes", k.count(1), 22);
        Check.due("endpoints, three were theirs", k.count(2), 37);
        k.close(0, 0);
        k.close(15, 39);
        Check.due("endpoints, two were closed", k.count(2), 35);
        k.remove(0, 1);
        k.remove(0, 41);
        Check.due("objects", k.count(3), 40);
        Check.due("tags", k.count(0), 24);
    }

    private static void countsEntriesOfCallsDone() {
        Check.sentence("4 ENTRIES in all (of calls whose changes were done)");
        LabelKernel k = withFile();
        k.crash(8);
        k.append(0, 1, 8, 0);
        Check.due("none of a call that is cut", k.count(4), 3);
        k.crash(9);
        k.append(0, 1, 8, 0);
        Check.due("all of one that is done, with a crash", k.count(4), 12);
        k.append(0, 1, 8, 0);
        Check.due("all of one without", k.count(4), 21);
        k.crash(0);
        k.remove(0, 1);
        k.remove(0, 9);
        k.append(0, 1, 9, 0);
        Check.due("none of what was not done", k.count(4), 21);
    }

    private static void countsCrashes() {
        Check.sentence("5 crashes");
        LabelKernel k = withFile();
        k.crash(0);
        Check.due("one that is told has not come", k.count(5), 0);
        k.write(0, 1, 0, 5);
        Check.due("one that cut", k.count(5), 1);
        k.crash(2);
        k.write(0, 1, 0, 5);
        Check.due("one that did not cut", k.count(5), 2);
        k.write(0, 1, 0, 5);
        k.crash(3);
        k.crash(NONE);
        k.write(0, 1, 0, 5);
        Check.due("none came", k.count(5), 2);
    }

    private static void countsLostMessages() {
        Check.sentence("6 MESSAGES that got lost. OUTSIDE.");
        LabelKernel k = Check.withTags(OWN);
        k.spawn(0, 0, 0, 0, 0);
        k.endpoint(0, 0, 0);
        k.endpoint(1, 0, 0);
        k.endpoint(0, 1, 0);
        for (int n = 0; n < 5; n++) {
            k.send(0, 0, 1, n, 0, 0);
        }
        Check.due("no room", k.count(6), 1);
        k.send(0, 2, 1, 5, 0, 0);
        Check.due("no flow", k.count(6), 2);
        k.send(0, 0, 39, 5, 0, 0);
        Check.due("no endpoint", k.count(6), 3);
        k.send(0, 0, 40, 5, 0, 0);
        k.send(0, 1, 0, 5, 0, 0);
        k.send(1, 1, 0, 5, 1, 0);
        Check.due("what is refused is not lost", k.count(6), 3);
        for (int n = 0; n < 4; n++) {
            k.receive(1, 1);
        }
        Check.due("what is taken is not lost", k.count(6), 3);
        k.crash(0);
        k.file(0, 0, 0, 0);
        Check.due("behind a crash", k.count(6), 3);
    }
}
