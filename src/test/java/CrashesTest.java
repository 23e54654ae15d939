/** Promises 23 and 24: the journal, crashes and counts. */
public final class CrashesTest {
    private static final int NONE = LabelKernel.NONE, UNKNOWN = LabelKernel.UNKNOWN, OUTSIDE = LabelKernel.OUTSIDE;
    private static final int DENIED = LabelKernel.DENIED, FULL = LabelKernel.FULL, CRASHED = LabelKernel.CRASHED;
    private static final int SECRET = 0, SEAL = 1, OWN = 2;

    public static void main(String[] args) {
        promise23Bounds();
        promise23Boundary();
        promise23WaitsForEntries();
        promise23StartsAnew();
        promise23EndsAll();
        promise24();
        promise24Entries();
        Check.end();
    }

    private static void promise23Bounds() {
        LabelKernel k = new LabelKernel();
        Check.due("23: -2", k.crash(-2), OUTSIDE);
        Check.due("23: 101", k.crash(101), OUTSIDE);
        Check.due("23: MIN", k.crash(Integer.MIN_VALUE), OUTSIDE);
        Check.due("23: MAX", k.crash(Integer.MAX_VALUE), OUTSIDE);
        Check.due("23: none was told", k.file(0, 0, 0, 0), 1);
        Check.due("23: NONE, none is told", k.crash(NONE), 1);
        Check.due("23: 0", k.crash(0), 1);
        Check.due("23: refused, the one told stays", k.crash(101), OUTSIDE);
        Check.due("23: none of it", k.append(0, 1, 1, 0), CRASHED);
        Check.due("23: none of it", k.object(0, 1, 4), 0);
        Check.due("23: it comes once", k.append(0, 1, 1, 0), 1);
        Check.due("23: 100", k.crash(100), 1);
        Check.due("23: none any more", k.crash(NONE), 1);
        Check.due("23: none comes", k.append(0, 1, 1, 0), 1);
        k.crash(0);
        k.crash(100);
        Check.due("23: the latest one told counts", k.append(0, 1, 8, 0), CRASHED);
        Check.due("23: all of it", k.object(0, 1, 4), 10);
        Check.due("23: two crashes", k.count(5), 2);
    }

    private static void promise23Boundary() {
        for (int n = 0; n <= 12; n++) {
            LabelKernel k = new LabelKernel();
            k.file(0, 0, 0, 0);
            k.crash(n);
            Check.due("23: append at " + n, k.append(0, 1, 8, 0), CRASHED);
            Check.due("23: wholly or not at all at " + n, k.object(0, 1, 4), n >= 9 ? 8 : 0);
            Check.due("23: entries at " + n, k.count(4), n >= 9 ? 12 : 3);
            k.crash(n);
            Check.due("23: write at " + n, k.write(0, 1, 0, 77), CRASHED);
            int due = n >= 2 ? 77 : OUTSIDE;
            Check.due("23: written at " + n, k.read(0, 1, 0), due);
            k.crash(n);
            Check.due("23: container at " + n, k.container(0, 0, 0, 0, 1, 1), CRASHED);
            Check.due("23: made at " + n, k.count(3), n >= 3 ? 3 : 2);
            k.crash(n);
            Check.due("23: file at " + n, k.file(0, 0, 0, 0), CRASHED);
            Check.due("23: made at " + n, k.count(3), n >= 3 ? 4 : 2);
            k.crash(n);
            Check.due("23: remove at " + n, k.remove(0, 1), CRASHED);
            Check.due("23: removed at " + n, k.object(0, 1, 0), n >= 2 ? UNKNOWN : 0);
            Check.due("23: crashes at " + n, k.count(5), 5);
        }
    }

    private static void promise23WaitsForEntries() {
        LabelKernel k = new LabelKernel();
        k.crash(0);
        k.tag(0, OWN);
        k.label(0, 0, 1);
        k.label(0, 0, 0);
        k.endpoint(0, 0, 0);
        k.send(0, 0, 0, 1, 1, 1);
        k.receive(0, 0);
        k.drop(0, 0, 0);
        k.spawn(0, 0, 0, 0, 0);
        k.exit(1);
        k.close(0, 0);
        k.list(0, 0, 0);
        k.object(0, 0, 5);
        Check.due("23: unknown", k.remove(0, 1), UNKNOWN);
        Check.due("23: outside", k.container(0, 0, 0, 0, 201, 0), OUTSIDE);
        Check.due("23: denied", k.remove(0, 0), DENIED);
        Check.due("23: full", k.container(0, 0, 0, 0, 0, 50), FULL);
        Check.due("23: no crash yet", k.count(5), 0);
        Check.due("23: now", k.file(0, 0, 0, 0), CRASHED);
        Check.due("23: a crash", k.count(5), 1);
    }

    private static void promise23StartsAnew() {
        for (int n = 0; n <= 100; n += 100) {
            LabelKernel k = new LabelKernel();
            k.tag(0, SECRET);
            k.tag(0, SEAL);
            k.tag(0, OWN);
            k.spawn(0, 0, 0, 4, 4);
            k.spawn(1, 0, 0, 0, 0);
            k.endpoint(0, 4, 0);
            k.endpoint(1, 0, 0);
            k.endpoint(0, 0, 0);
            k.send(0, 2, 1, 9, 4, 4);
            k.send(1, 1, 2, 9, 4, 4);
            k.receive(0, 2);
            k.send(1, 1, 2, 9, 4, 4);
            k.send(0, 0, 1, 5, 0, 0);
            k.label(0, 1, 4);
            k.file(2, 0, 0, 0);
            k.crash(n);
            Check.due("23: by process 2", k.append(2, 1, 3, 6), CRASHED);
            int[] told = {0, 0, 0, 0, NONE, 0, 0};
            for (int what = 0; what < told.length; what++) {
                Check.due("23: told(0, " + what + ")", k.told(0, what), told[what]);
            }
            Check.due("23: process 1 ended", k.told(1, 0), UNKNOWN);
            Check.due("23: process 2 ended", k.told(2, 0), UNKNOWN);
            Check.due("23: the message is no more", k.message(0, 0) + k.message(0, 1) + k.message(0, 2), 0);
            for (int e = 0; e < 3; e++) {
                Check.due("23: endpoint " + e + " is closed", k.port(e, 0), UNKNOWN);
            }
            int[] counts = {3, 1, 0, 2, n == 0 ? 3 : 7, 1, 1};
            for (int what = 0; what < counts.length; what++) {
                Check.due("23: count(" + what + ")", k.count(what), counts[what]);
            }
            Check.due("23: everybody's plus stays", k.everybody(0), 1);
            Check.due("23: everybody's minus stays", k.everybody(1), 2);
            Check.due("23: a secret goes on", k.label(0, 0, 1), 0);
            Check.due("23: but its maker does not own it", k.label(0, 0, 0), DENIED);
            Check.due("23: nor the own tag", k.label(0, 0, 5), DENIED);
            Check.due("23: numbers of processes go on", k.spawn(0, 1, 0, 0, 0), 3);
            Check.due("23: numbers of endpoints go on", k.endpoint(0, 1, 0), 3);
            Check.due("23: numbers of tags go on", k.tag(0, OWN), 3);
            Check.due("23: its queue is new", k.port(3, 3), 0);
            Check.due("23: the file", k.object(0, 1, 4), n == 0 ? 0 : 3);
        }
    }

    private static void promise23EndsAll() {
        LabelKernel k = new LabelKernel();
        for (int p = 1; p < 24; p++) {
            k.spawn(0, 0, 0, 0, 0);
        }
        for (int e = 0; e < 40; e++) {
            k.endpoint(e % 24, 0, 0);
        }
        k.crash(0);
        Check.due("23: by the last process", k.file(23, 0, 0, 0), CRASHED);
        Check.due("23: one process is left", k.count(1), 1);
        Check.due("23: the last ended", k.told(23, 0), UNKNOWN);
        Check.due("23: no endpoint is left", k.count(2), 0);
        Check.due("23: the last is closed", k.port(39, 0), UNKNOWN);
        Check.due("23: no process can be made any more", k.spawn(0, 0, 0, 0, 0), FULL);
        Check.due("23: nor an endpoint", k.endpoint(0, 0, 0), FULL);
    }

    private static void promise24() {
        LabelKernel k = new LabelKernel();
        k.tag(0, OWN);
        k.tag(0, SECRET);
        k.spawn(0, 0, 0, 0, 0);
        k.spawn(0, 0, 0, 0, 0);
        k.spawn(0, 0, 0, 0, 0);
        k.exit(2);
        for (int e = 0; e < 5; e++) {
            k.endpoint(0, 0, 0);
        }
        k.close(0, 1);
        k.file(0, 0, 0, 0);
        k.file(0, 0, 0, 0);
        k.file(0, 0, 0, 0);
        k.file(0, 0, 0, 0);
        k.remove(0, 2);
        k.send(0, 0, 1, 0, 0, 0);
        int[] due = {2, 3, 4, 4, 14, 0, 1};
        for (int what = 0; what < due.length; what++) {
            Check.due("24: count(" + what + ")", k.count(what), due[what]);
        }
        Check.due("24: -1", k.count(-1), OUTSIDE);
        Check.due("24: 7", k.count(7), OUTSIDE);
        k.crash(100);
        Check.due("24: told is not come", k.count(5), 0);
    }

    private static void promise24Entries() {
        LabelKernel k = new LabelKernel();
        int due = 0;
        k.container(0, 0, 0, 0, 20, 5);
        Check.due("24: a container", k.count(4), due += 3);
        k.file(0, 1, 0, 0);
        Check.due("24: a file", k.count(4), due += 3);
        for (int n = 1; n <= 8; n++) {
            if (n == 5) {
                k.file(0, 1, 0, 0);
                due += 3;
            }
            k.append(0, n < 5 ? 2 : 3, n, 0);
            Check.due("24: append " + n, k.count(4), due += n + 1);
        }
        k.write(0, 2, 0, 1);
        Check.due("24: write", k.count(4), due += 2);
        k.remove(0, 2);
        Check.due("24: remove one", k.count(4), due += 2);
        k.crash(2);
        k.remove(0, 1);
        Check.due("24: cut", k.count(4), due);
        k.crash(3);
        k.remove(0, 1);
        Check.due("24: remove two, and a crash", k.count(4), due += 3);
        k.crash(3);
        k.container(0, 0, 0, 0, 1, 1);
        Check.due("24: a container, and a crash", k.count(4), due += 3);
        Check.due("24: crashes", k.count(5), 3);
    }
}
