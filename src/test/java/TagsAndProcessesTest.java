/** Promises 1 to 8: a new object, tags, labels and processes. */
public final class TagsAndProcessesTest {
    private static final int NONE = LabelKernel.NONE, UNKNOWN = LabelKernel.UNKNOWN, OUTSIDE = LabelKernel.OUTSIDE;
    private static final int DENIED = LabelKernel.DENIED, FULL = LabelKernel.FULL;
    private static final int SECRET = 0, SEAL = 1, OWN = 2;
    private static final int MIN = Integer.MIN_VALUE, MAX = Integer.MAX_VALUE;

    public static void main(String[] args) {
        promise1();
        promise2();
        promise2Full();
        promise3();
        promise4();
        promise5();
        promise5Endpoints();
        promise6();
        promise6Endpoints();
        promise7();
        promise7Full();
        promise8();
        Check.end();
    }

    private static void promise1() {
        LabelKernel k = new LabelKernel();
        int[] counts = {0, 1, 0, 1, 0, 0, 0};
        for (int what = 0; what < counts.length; what++) {
            Check.due("1: count(" + what + ")", k.count(what), counts[what]);
        }
        int[] process = {0, 0, 0, 0, NONE, 0, 0};
        for (int what = 0; what < process.length; what++) {
            Check.due("1: told(0, " + what + ")", k.told(0, what), process[what]);
        }
        int[] container = {1, 0, 0, NONE, 0, 200, 50};
        for (int what = 0; what < container.length; what++) {
            Check.due("1: object(0, 0, " + what + ")", k.object(0, 0, what), container[what]);
        }
        Check.due("1: everybody(0)", k.everybody(0), 0);
        Check.due("1: everybody(1)", k.everybody(1), 0);
        Check.due("1: message(0, 0)", k.message(0, 0), 0);
        Check.due("1: list(0, 0, 0)", k.list(0, 0, 0), NONE);
        Check.due("1: port(0, 0)", k.port(0, 0), UNKNOWN);
        Check.due("1: no crash is told", k.file(0, 0, 0, 0), 1);
        Check.due("1: another object is not changed", new LabelKernel().count(3), 1);
    }

    private static void promise2() {
        LabelKernel k = new LabelKernel();
        Check.due("2: of no process", k.tag(1, SECRET), UNKNOWN);
        Check.due("2: of process -1", k.tag(-1, SECRET), UNKNOWN);
        Check.due("2: of process 24", k.tag(24, SECRET), UNKNOWN);
        Check.due("2: of process MIN", k.tag(MIN, SECRET), UNKNOWN);
        Check.due("2: of process MAX", k.tag(MAX, SECRET), UNKNOWN);
        Check.due("2: of no process, of no kind", k.tag(1, 3), UNKNOWN);
        Check.due("2: kind -1", k.tag(0, -1), OUTSIDE);
        Check.due("2: kind 3", k.tag(0, 3), OUTSIDE);
        Check.due("2: nothing was made", k.count(0), 0);
        Check.due("2: a seal", k.tag(0, SEAL), 0);
        Check.due("2: a seal's everybody plus", k.everybody(0), 0);
        Check.due("2: a seal's everybody minus", k.everybody(1), 1);
        Check.due("2: a seal's plus", k.told(0, 2), 1);
        Check.due("2: a seal's minus", k.told(0, 3), 0);
        Check.due("2: a secret", k.tag(0, SECRET), 1);
        Check.due("2: a secret's everybody plus", k.everybody(0), 2);
        Check.due("2: a secret's everybody minus", k.everybody(1), 1);
        Check.due("2: a secret's plus", k.told(0, 2), 1);
        Check.due("2: a secret's minus", k.told(0, 3), 2);
        Check.due("2: an own tag", k.tag(0, OWN), 2);
        Check.due("2: an own tag's everybody plus", k.everybody(0), 2);
        Check.due("2: an own tag's everybody minus", k.everybody(1), 1);
        Check.due("2: an own tag's plus", k.told(0, 2), 5);
        Check.due("2: an own tag's minus", k.told(0, 3), 6);
        Check.due("2: a child", k.spawn(0, 0, 0, 0, 0), 1);
        Check.due("2: the child's own tag", k.tag(1, OWN), 3);
        Check.due("2: is in its plus alone", k.told(1, 2), 8);
        Check.due("2: is in its minus alone", k.told(1, 3), 8);
        Check.due("2: not in its parent's plus", k.told(0, 2), 5);
        Check.due("2: not in its parent's minus", k.told(0, 3), 6);
        Check.due("2: a tag changes no label", k.told(1, 0) + k.told(1, 1), 0);
        k.exit(1);
        Check.due("2: of a process that ended", k.tag(1, SECRET), UNKNOWN);
        Check.due("2: four tags", k.count(0), 4);
    }

    private static void promise2Full() {
        LabelKernel k = new LabelKernel();
        for (int t = 0; t < 24; t++) {
            Check.due("2: tag " + t, k.tag(0, OWN), t);
        }
        Check.due("2: tag 24", k.tag(0, OWN), FULL);
        Check.due("2: tag 24 of no kind", k.tag(0, 3), OUTSIDE);
        Check.due("2: tag 24 of no process", k.tag(1, OWN), UNKNOWN);
        Check.due("2: 24 tags", k.count(0), 24);
        Check.due("2: all of 24", k.told(0, 2), 0xffffff);
        Check.due("2: a label of 24", k.label(0, 0, 0xffffff), 0);
        Check.due("2: a label of a 25th", k.label(0, 0, 0x1000000), OUTSIDE);
        Check.due("2: a label of the last bit", k.label(0, 0, MIN), OUTSIDE);
    }

    private static void promise3() {
        LabelKernel k = Check.withTags(SECRET, SEAL, SECRET, SEAL, OWN);
        Check.due("3: plus", k.everybody(0), 5);
        Check.due("3: minus", k.everybody(1), 10);
        Check.due("3: -1", k.everybody(-1), OUTSIDE);
        Check.due("3: 2", k.everybody(2), OUTSIDE);
        Check.due("3: MIN", k.everybody(MIN), OUTSIDE);
        Check.due("3: MAX", k.everybody(MAX), OUTSIDE);
    }

    private static void promise4() {
        LabelKernel k = Check.withTags(SECRET, SEAL, OWN, OWN);
        k.spawn(0, 5, 2, 4, 9);
        int[] due = {5, 2, 4, 9, 0, 0, 1};
        for (int what = 0; what < due.length; what++) {
            Check.due("4: told(1, " + what + ")", k.told(1, what), due[what]);
        }
        Check.due("4: both of 0", k.told(0, 6), 15);
        k.endpoint(1, 5, 2);
        k.endpoint(1, 4, 2);
        k.endpoint(0, 0, 0);
        Check.due("4: endpoints", k.told(1, 5), 2);
        k.close(1, 0);
        Check.due("4: endpoints that are open", k.told(1, 5), 1);
        k.spawn(1, 5, 2, 0, 0);
        Check.due("4: parent", k.told(2, 4), 1);
        k.exit(1);
        Check.due("4: a parent that ended", k.told(2, 4), 1);
        Check.due("4: of one that ended", k.told(1, 0), UNKNOWN);
        Check.due("4: of none", k.told(3, 0), UNKNOWN);
        Check.due("4: of none, nothing", k.told(3, 7), UNKNOWN);
        Check.due("4: of -1", k.told(-1, 0), UNKNOWN);
        Check.due("4: of 24", k.told(24, 0), UNKNOWN);
        Check.due("4: what -1", k.told(0, -1), OUTSIDE);
        Check.due("4: what 7", k.told(0, 7), OUTSIDE);
    }

    private static void promise5() {
        LabelKernel k = Check.withTags(SECRET, SEAL, OWN);
        k.spawn(0, 0, 0, 0, 0);
        Check.due("5: of none", k.label(2, 2, 8), UNKNOWN);
        Check.due("5: what -1", k.label(0, -1, 0), OUTSIDE);
        Check.due("5: what 2", k.label(0, 2, 0), OUTSIDE);
        Check.due("5: a tag that there is not", k.label(1, 0, 8), OUTSIDE);
        Check.due("5: -1", k.label(0, 1, -1), OUTSIDE);
        Check.due("5: outside ahead of denied", k.label(1, 0, 12), OUTSIDE);
        Check.due("5: everybody can add a secret", k.label(1, 0, 1), 0);
        Check.due("5: not take it", k.label(1, 0, 0), DENIED);
        Check.due("5: no one else can add a seal", k.label(1, 1, 2), DENIED);
        Check.due("5: nor an own tag", k.label(1, 0, 5), DENIED);
        Check.due("5: denied changes nothing", k.told(1, 0), 1);
        Check.due("5: the same again", k.label(1, 0, 1), 1);
        Check.due("5: the maker adds a seal", k.label(0, 1, 2), 0);
        Check.due("5: and takes it", k.label(0, 1, 0), 2);
        Check.due("5: the maker adds all", k.label(0, 0, 7), 0);
        Check.due("5: secrets are not seals", k.told(0, 1), 0);
        Check.due("5: seals", k.label(0, 1, 5), 0);
        Check.due("5: seals are not secrets", k.told(0, 0), 7);
        Check.due("5: the seals now", k.told(0, 1), 5);
        Check.due("5: one added, one taken", k.label(0, 0, 1), 7);
        Check.due("5: the secrets now", k.told(0, 0), 1);
        k.spawn(0, 1, 2, 0, 0);
        Check.due("5: everybody takes a seal", k.label(2, 1, 0), 2);
        Check.due("5: but can't add it again", k.label(2, 1, 2), DENIED);
        Check.due("5: a secret among the seals", k.label(2, 1, 1), 0);
        k.exit(2);
        Check.due("5: of one that ended", k.label(2, 0, 1), UNKNOWN);
    }

    private static void promise5Endpoints() {
        LabelKernel k = Check.withTags(SECRET, SECRET, OWN);
        k.spawn(0, 0, 0, 0, 0);
        Check.due("5: an endpoint", k.endpoint(1, 0, 0), 0);
        Check.due("5: left behind by secrets", k.label(1, 0, 1), DENIED);
        Check.due("5: left behind by seals", k.label(1, 1, 1), DENIED);
        Check.due("5: it did not rise", k.told(1, 0) + k.told(1, 1), 0);
        Check.due("5: another's endpoint binds none", k.label(0, 0, 1), 0);
        Check.due("5: one of two", k.endpoint(0, 3, 4), 1);
        Check.due("5: where it owns both", k.label(0, 0, 6), 1);
        k.close(1, 0);
        Check.due("5: a closed one binds none", k.label(1, 0, 1), 0);
        k.spawn(0, 0, 0, 4, 4);
        Check.due("5: a secret for good", k.label(2, 0, 1), 0);
        Check.due("5: an endpoint with it", k.endpoint(2, 1, 0), 2);
        Check.due("5: and more than it", k.endpoint(2, 5, 0), 3);
        Check.due("5: what both have is no difference", k.label(2, 0, 5), 1);
        k.tag(2, OWN);
        k.drop(2, 1, 8);
        Check.due("5: what it can add, but not take", k.label(2, 0, 13), DENIED);
        k.close(2, 2);
        k.close(2, 3);
        Check.due("5: without endpoints", k.label(2, 0, 13), 5);
        k.drop(2, 0, 4);
        Check.due("5: an endpoint with what it can take, but not add", k.endpoint(2, 13, 0), 4);
        Check.due("5: can't be left behind, either", k.label(2, 0, 9), DENIED);
    }

    private static void promise6() {
        LabelKernel k = Check.withTags(OWN, OWN, OWN, SECRET);
        Check.due("6: of none", k.drop(1, 2, 16), UNKNOWN);
        Check.due("6: what -1", k.drop(0, -1, 0), OUTSIDE);
        Check.due("6: what 2", k.drop(0, 2, 0), OUTSIDE);
        Check.due("6: a tag that there is not", k.drop(0, 0, 16), OUTSIDE);
        Check.due("6: MIN", k.drop(0, 1, MIN), OUTSIDE);
        Check.due("6: of plus", k.drop(0, 0, 2), 5);
        Check.due("6: plus", k.told(0, 2), 5);
        Check.due("6: not of minus", k.told(0, 3), 15);
        Check.due("6: of minus", k.drop(0, 1, 12), 3);
        Check.due("6: minus", k.told(0, 3), 3);
        Check.due("6: not of plus", k.told(0, 2), 5);
        Check.due("6: what it does not own", k.drop(0, 0, 10), 5);
        Check.due("6: nothing", k.drop(0, 0, 0), 5);
        Check.due("6: everybody's stays", k.everybody(0), 8);
        Check.due("6: it can't add it any more", k.label(0, 0, 2), DENIED);
        Check.due("6: all", k.drop(0, 0, 15), 0);
        Check.due("6: all of minus", k.drop(0, 1, 15), 0);
        k.spawn(0, 0, 0, 0, 0);
        k.exit(1);
        Check.due("6: of one that ended", k.drop(1, 0, 0), UNKNOWN);
    }

    private static void promise6Endpoints() {
        LabelKernel k = Check.withTags(OWN, OWN, SECRET);
        k.endpoint(0, 1, 0);
        k.endpoint(0, 0, 2);
        k.endpoint(0, 4, 0);
        Check.due("6: plus that an endpoint's secrets need", k.drop(0, 0, 1), DENIED);
        Check.due("6: minus that an endpoint's secrets need", k.drop(0, 1, 1), DENIED);
        Check.due("6: plus that an endpoint's seals need", k.drop(0, 0, 2), DENIED);
        Check.due("6: minus of a secret", k.drop(0, 1, 4), DENIED);
        Check.due("6: denied changes nothing", k.told(0, 2) * 8 + k.told(0, 3), 31);
        k.close(0, 0);
        Check.due("6: plus that none needs now", k.drop(0, 0, 1), 2);
        k.close(0, 2);
        k.label(0, 1, 2);
        Check.due("6: nor where the label is the same", k.drop(0, 0, 2), 0);
        Check.due("6: an endpoint that a child need not fit", k.endpoint(0, 4, 2), 3);
        k.spawn(0, 0, 2, 0, 4);
        Check.due("6: another's endpoints bind none", k.drop(1, 1, 4), 0);
    }

    private static void promise7() {
        LabelKernel k = Check.withTags(SECRET, SEAL, OWN, OWN);
        Check.due("7: by none", k.spawn(1, 16, 0, 0, 0), UNKNOWN);
        Check.due("7: secrets outside", k.spawn(0, 16, 0, 0, 0), OUTSIDE);
        Check.due("7: seals outside", k.spawn(0, 0, 16, 0, 0), OUTSIDE);
        Check.due("7: plus outside", k.spawn(0, 0, 0, 16, 0), OUTSIDE);
        Check.due("7: minus outside", k.spawn(0, 0, 0, 0, -1), OUTSIDE);
        Check.due("7: everybody's plus is not owned", k.spawn(0, 0, 0, 1, 0), DENIED);
        Check.due("7: everybody's minus is not owned", k.spawn(0, 0, 0, 0, 2), DENIED);
        Check.due("7: part of plus is not owned", k.spawn(0, 0, 0, 15, 0), DENIED);
        Check.due("7: nothing was made", k.count(1), 1);
        Check.due("7: a child", k.spawn(0, 5, 6, 6, 9), 1);
        int[] due = {5, 6, 6, 9, 0, 0};
        for (int what = 0; what < due.length; what++) {
            Check.due("7: told(1, " + what + ")", k.told(1, what), due[what]);
        }
        Check.due("7: the parent keeps its own", k.told(0, 2) * 16 + k.told(0, 3), 14 * 16 + 13);
        Check.due("7: secrets it can't add", k.spawn(1, 13, 6, 0, 0), DENIED);
        Check.due("7: secrets it can't take", k.spawn(1, 1, 6, 0, 0), DENIED);
        Check.due("7: secrets it can take", k.spawn(1, 4, 6, 0, 0), 2);
        Check.due("7: seals it can't add", k.spawn(1, 5, 14, 0, 0), DENIED);
        Check.due("7: seals it can't take", k.spawn(1, 5, 2, 0, 0), DENIED);
        Check.due("7: seals it can take", k.spawn(1, 5, 4, 0, 0), 3);
        Check.due("7: its parent's plus", k.spawn(1, 5, 6, 8, 0), DENIED);
        Check.due("7: its parent's minus", k.spawn(1, 5, 6, 0, 4), DENIED);
        Check.due("7: outside ahead of denied", k.spawn(1, 5, 6, 8, 16), OUTSIDE);
        Check.due("7: plus is not minus", k.spawn(1, 5, 6, 6, 1), 4);
        Check.due("7: of its parent", k.told(4, 4), 1);
        k.endpoint(0, 0, 0);
        Check.due("7: endpoints bind no child", k.spawn(0, 1, 0, 0, 0), 5);
        Check.due("7: endpoints are not handed down", k.told(5, 5), 0);
        k.exit(1);
        Check.due("7: by one that ended", k.spawn(1, 5, 6, 0, 0), UNKNOWN);
        Check.due("7: its number is not given again", k.spawn(0, 0, 0, 0, 0), 6);
        Check.due("7: processes", k.count(1), 6);
        LabelKernel j = Check.withTags(SECRET, SEAL);
        j.label(0, 1, 2);
        j.spawn(0, 1, 2, 0, 0);
        Check.due("7: secrets and seals are changed from their own", j.spawn(1, 1, 2, 0, 0), 2);
        Check.due("7: secrets are taken from secrets", j.spawn(1, 0, 2, 0, 0), DENIED);
        Check.due("7: seals are taken from seals", j.spawn(1, 1, 0, 0, 0), 3);
        Check.due("7: seals are added to seals", j.spawn(1, 3, 2, 0, 0), DENIED);
    }

    private static void promise7Full() {
        LabelKernel k = Check.withTags(OWN);
        for (int p = 1; p < 24; p++) {
            Check.due("7: process " + p, k.spawn(p - 1, 0, 0, 0, 0), p);
        }
        Check.due("7: process 24", k.spawn(0, 0, 0, 0, 0), FULL);
        Check.due("7: 24 processes", k.count(1), 24);
        Check.due("7: denied ahead of full", k.spawn(23, 1, 0, 0, 0), DENIED);
        Check.due("7: outside ahead of full", k.spawn(23, 2, 0, 0, 0), OUTSIDE);
        Check.due("7: unknown ahead of full", k.spawn(24, 0, 0, 0, 0), UNKNOWN);
        k.exit(23);
        Check.due("7: those that ended count", k.spawn(0, 0, 0, 0, 0), FULL);
        Check.due("7: 23 are left", k.count(1), 23);
    }

    private static void promise8() {
        LabelKernel k = Check.withTags(OWN);
        Check.due("8: process 0", k.exit(0), DENIED);
        Check.due("8: none", k.exit(1), UNKNOWN);
        Check.due("8: -1", k.exit(-1), UNKNOWN);
        Check.due("8: MAX", k.exit(MAX), UNKNOWN);
        k.spawn(0, 0, 0, 1, 1);
        k.spawn(1, 0, 0, 0, 0);
        k.endpoint(0, 0, 0);
        k.endpoint(1, 0, 0);
        k.endpoint(1, 1, 0);
        k.endpoint(1, 0, 1);
        k.endpoint(2, 0, 0);
        k.close(1, 2);
        k.send(0, 0, 1, 5, 0, 0);
        Check.due("8: two were open", k.exit(1), 2);
        Check.due("8: it is no more", k.exit(1), UNKNOWN);
        Check.due("8: its endpoint is closed", k.port(1, 0), UNKNOWN);
        Check.due("8: the other, too", k.port(3, 0), UNKNOWN);
        Check.due("8: 0's is not", k.port(0, 0), 0);
        Check.due("8: its child's is not", k.port(4, 0), 2);
        Check.due("8: its child goes on", k.told(2, 5), 1);
        Check.due("8: processes", k.count(1), 2);
        Check.due("8: what waited is not lost", k.count(6), 0);
        Check.due("8: what comes now is", k.send(0, 0, 1, 5, 0, 0), 1);
        Check.due("8: lost", k.count(6), 1);
        Check.due("8: one without endpoints", k.spawn(0, 0, 0, 0, 0), 3);
        Check.due("8: had none open", k.exit(3), 0);
        LabelKernel j = Check.withTags();
        j.spawn(0, 0, 0, 0, 0);
        for (int e = 0; e < 40; e++) {
            j.endpoint(1, 0, 0);
        }
        Check.due("8: all 40 endpoints", j.exit(1), 40);
        Check.due("8: the first is closed", j.port(0, 0), UNKNOWN);
        Check.due("8: the last is closed", j.port(39, 0), UNKNOWN);
        Check.due("8: none is open", j.count(2), 0);
    }
}
