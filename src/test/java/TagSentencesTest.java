import java.util.function.IntUnaryOperator;

/** Each sentence of the Terms, of section 1 and of promises 1 to 8 that names a boundary. */
public final class TagSentencesTest {
    private static final int NONE = LabelKernel.NONE, UNKNOWN = LabelKernel.UNKNOWN, OUTSIDE = LabelKernel.OUTSIDE;
    private static final int DENIED = LabelKernel.DENIED, FULL = LabelKernel.FULL, CRASHED = LabelKernel.CRASHED;
    private static final int SECRET = Check.SECRET, SEAL = Check.SEAL, OWN = Check.OWN;
    private static final int MIN = Check.MIN, MAX = Check.MAX;

    public static void main(String[] args) {
        numbersComeFromZero();
        numbersAreNotGivenTwiceBehindACrash();
        noneIsMinusOne();
        processesThatThereAreNot();
        processesThatEnded();
        atMost24Tags();
        setsOfTagsThatThereAre();
        setsOfNoTags();
        atMost24Processes();
        everybodyOwnsNothingAtFirst();
        canAddCanTakeAndBoth();
        kindsOfTags();
        process0AtFirst();
        safeChangesOfLabels();
        safeChangesInSpawn();
        aNewObject();
        tagsKinds();
        everybodysWhat();
        toldsWhat();
        toldsParent();
        toldsEndpoints();
        labelsWhat();
        labelWhatTheyWere();
        dropsWhat();
        dropAllThatIsLeft();
        spawnOwnsNoMore();
        exitHowManyWereOpen();
        exitOf0();
        Check.end();
    }

    private static void numbersComeFromZero() {
        Check.sentence("what has a number has it from 0 on, as it comes, and no number is given twice.");
        LabelKernel k = new LabelKernel();
        Check.due("the first tag", k.tag(0, OWN), 0);
        Check.due("a tag of no kind", k.tag(0, 3), OUTSIDE);
        Check.due("the second tag", k.tag(0, OWN), 1);
        Check.due("the first that is made", k.spawn(0, 0, 0, 0, 0), 1);
        Check.due("one that is not made", k.spawn(1, 1, 0, 0, 0), DENIED);
        Check.due("the second", k.spawn(1, 0, 0, 0, 0), 2);
        k.exit(2);
        Check.due("behind the latest that ended", k.spawn(0, 0, 0, 0, 0), 3);
        Check.due("a third tag, by another one", k.tag(3, OWN), 2);
        Check.due("the first endpoint", k.endpoint(1, 0, 0), 0);
        Check.due("the second endpoint", k.endpoint(3, 0, 0), 1);
        k.close(3, 1);
        Check.due("behind the latest that was closed", k.endpoint(0, 0, 0), 2);
        Check.due("one that is not made", k.endpoint(1, 1, 0), DENIED);
        k.exit(1);
        Check.due("behind those of one that ended", k.endpoint(0, 0, 0), 3);
        Check.due("the first object that is made", k.file(0, 0, 0, 0), 1);
        Check.due("the second object", k.container(0, 0, 0, 0, 9, 9), 2);
        Check.due("one that is not made", k.container(0, 0, 0, 0, 0, 50), FULL);
        Check.due("the third object", k.file(0, 2, 0, 0), 3);
        k.remove(0, 2);
        Check.due("behind those that were removed", k.file(0, 0, 0, 0), 4);
    }

    private static void numbersAreNotGivenTwiceBehindACrash() {
        Check.sentence("no number is given twice.");
        LabelKernel k = Check.withTags(OWN);
        k.spawn(0, 0, 0, 0, 0);
        k.endpoint(1, 0, 0);
        k.file(0, 0, 0, 0);
        k.crash(100);
        Check.due("a crash", k.remove(0, 1), CRASHED);
        Check.due("a process", k.spawn(0, 0, 0, 0, 0), 2);
        Check.due("an endpoint", k.endpoint(0, 0, 0), 1);
        Check.due("a tag", k.tag(0, OWN), 1);
        Check.due("an object", k.file(0, 0, 0, 0), 2);
    }

    private static void noneIsMinusOne() {
        Check.sentence("NONE is -1.");
        LabelKernel k = new LabelKernel();
        Check.due("NONE", LabelKernel.NONE, -1);
        Check.due("0's parent", k.told(0, 4), -1);
        Check.due("the container of 0", k.object(0, 0, 3), -1);
        Check.due("what stands in an empty one", k.list(0, 0, 0), -1);
        Check.due("a crash that is told no more", k.crash(-1), 1);
    }

    private static void dueOfProcess(LabelKernel k, int p, int due) {
        Check.due("tag by " + p, k.tag(p, OWN), due);
        Check.due("told of " + p, k.told(p, 0), due);
        Check.due("label of " + p, k.label(p, 0, 0), due);
        Check.due("drop of " + p, k.drop(p, 0, 0), due);
        Check.due("spawn by " + p, k.spawn(p, 0, 0, 0, 0), due);
        Check.due("exit of " + p, k.exit(p), due);
        Check.due("endpoint of " + p, k.endpoint(p, 0, 0), due);
        Check.due("close by " + p, k.close(p, 0), due);
        Check.due("send by " + p, k.send(p, 0, 0, 0, 0, 0), due);
        Check.due("receive by " + p, k.receive(p, 0), due);
        Check.due("message of " + p, k.message(p, 0), due);
        Check.due("container by " + p, k.container(p, 0, 0, 0, 0, 0), due);
        Check.due("file by " + p, k.file(p, 0, 0, 0), due);
        Check.due("remove by " + p, k.remove(p, 1), due);
        Check.due("write by " + p, k.write(p, 1, 0, 0), due);
        Check.due("append by " + p, k.append(p, 1, 1, 0), due);
        Check.due("read by " + p, k.read(p, 1, 0), due);
        Check.due("object by " + p, k.object(p, 0, 0), due);
        Check.due("list by " + p, k.list(p, 0, 0), due);
    }

    private static void processesThatThereAreNot() {
        Check.sentence("UNKNOWN (a PROCESS, TAG, ENDPOINT, OBJECT that there is not");
        for (int p : new int[] {-1, 2, 3, 23, 24, 25, MIN, MAX}) {
            LabelKernel k = new LabelKernel();
            k.spawn(0, 0, 0, 0, 0);
            k.endpoint(0, 0, 0);
            k.file(0, 0, 0, 0);
            k.append(0, 1, 1, 7);
            dueOfProcess(k, p, UNKNOWN);
            Check.dueFromZero("counts", k::count, 0, 2, 1, 2, 5, 0, 0);
        }
    }

    private static void processesThatEnded() {
        Check.sentence("or is no more)");
        LabelKernel k = new LabelKernel();
        k.spawn(0, 0, 0, 0, 0);
        k.spawn(1, 0, 0, 0, 0);
        k.endpoint(1, 0, 0);
        k.file(1, 0, 0, 0);
        k.append(1, 1, 1, 7);
        k.exit(1);
        dueOfProcess(k, 1, UNKNOWN);
        Check.dueFromZero("counts", k::count, 0, 2, 0, 2, 5, 0, 0);
        k.crash(0);
        Check.due("a crash", k.write(2, 1, 0, 0), CRASHED);
        dueOfProcess(k, 2, UNKNOWN);
        Check.dueFromZero("counts behind a crash", k::count, 0, 1, 0, 2, 5, 1, 0);
    }

    private static void atMost24Tags() {
        Check.sentence("TAGS (24 at most).");
        for (int kind = SECRET; kind <= OWN; kind++) {
            LabelKernel k = new LabelKernel();
            k.spawn(0, 0, 0, 0, 0);
            for (int t = 0; t < 24; t++) {
                Check.due("tag " + t, k.tag(t % 2, kind), t);
            }
            Check.due("a 25th", k.tag(0, kind), FULL);
            Check.due("a 25th, by another one", k.tag(1, kind), FULL);
            Check.due("24 tags", k.count(0), 24);
            Check.due("everybody's plus", k.everybody(0), kind == SECRET ? 0xffffff : 0);
            Check.due("everybody's minus", k.everybody(1), kind == SEAL ? 0xffffff : 0);
            Check.due("0's plus", k.told(0, 2), kind == SECRET ? 0 : 0x555555);
            Check.due("1's minus", k.told(1, 3), kind == SEAL ? 0 : 0xaaaaaa);
            k.exit(1);
            Check.due("a 25th, where a maker ended", k.tag(0, kind), FULL);
        }
    }

    /** The answers of every call that takes a set, for this one, in a kernel of so many own tags. */
    private static void dueOfSet(int tags, int set, boolean isOne) {
        LabelKernel k = new LabelKernel();
        for (int t = 0; t < tags; t++) {
            k.tag(0, OWN);
        }
        k.endpoint(0, 0, 0);
        String of = " of " + set + ", where there are " + tags + " tags";
        Check.due("send plus" + of, k.send(0, 0, 1, 0, set, 0), isOne ? 1 : OUTSIDE);
        Check.due("send minus" + of, k.send(0, 0, 1, 0, 0, set), isOne ? 1 : OUTSIDE);
        Check.due("lost", k.count(6), isOne ? 2 : 0);
        Check.due("endpoint secrets" + of, k.endpoint(0, set, 0), isOne ? 1 : OUTSIDE);
        Check.due("endpoint seals" + of, k.endpoint(0, 0, set), isOne ? 2 : OUTSIDE);
        Check.due("spawn secrets" + of, k.spawn(0, set, 0, 0, 0), isOne ? 1 : OUTSIDE);
        Check.due("spawn seals" + of, k.spawn(0, 0, set, 0, 0), isOne ? 2 : OUTSIDE);
        Check.due("spawn plus" + of, k.spawn(0, 0, 0, set, 0), isOne ? 3 : OUTSIDE);
        Check.due("spawn minus" + of, k.spawn(0, 0, 0, 0, set), isOne ? 4 : OUTSIDE);
        Check.due("file secrets" + of, k.file(0, 0, set, 0), isOne ? 1 : OUTSIDE);
        Check.due("file seals" + of, k.file(0, 0, 0, set), !isOne ? OUTSIDE : set == 0 ? 2 : DENIED);
        Check.due("container secrets" + of, k.container(0, 0, set, 0, 0, 0), !isOne ? OUTSIDE : set == 0 ? 3 : 2);
        Check.due("container seals" + of, k.container(0, 0, 0, set, 0, 0), !isOne ? OUTSIDE : set == 0 ? 4 : DENIED);
        Check.due("label secrets" + of, k.label(0, 0, set), isOne ? 0 : OUTSIDE);
        Check.due("secrets now", k.told(0, 0), isOne ? set : 0);
        Check.due("label seals" + of, k.label(0, 1, set), isOne ? 0 : OUTSIDE);
        Check.due("seals now", k.told(0, 1), isOne ? set : 0);
        k.exit(1);
        k.label(0, 0, 0);
        k.label(0, 1, 0);
        k.close(0, 0);
        k.close(0, 1);
        k.close(0, 2);
        Check.due("drop plus" + of, k.drop(0, 0, set), isOne ? ((1 << tags) - 1) & ~set : OUTSIDE);
        Check.due("drop minus" + of, k.drop(0, 1, set), isOne ? ((1 << tags) - 1) & ~set : OUTSIDE);
    }

    private static void setsOfTagsThatThereAre() {
        Check.sentence("A SET of TAGS is a whole number: bit t for TAG t; bits of TAGS that there are not may not be in it (OUTSIDE).");
        for (int tags : new int[] {1, 2, 7, 23, 24}) {
            int next = 1 << tags;
            for (int set : new int[] {0, 1, next >> 1, next - 1}) {
                dueOfSet(tags, set, true);
            }
            for (int set : new int[] {next, next + 1, next * 2 - 1, 1 << 24, 1 << 30, MAX, -1, MIN, MIN + 1, -next}) {
                dueOfSet(tags, set, false);
            }
        }
    }

    private static void setsOfNoTags() {
        Check.sentence("bits of TAGS that there are not may not be in it (OUTSIDE).");
        dueOfSet(0, 0, true);
        for (int set : new int[] {1, 2, 1 << 23, 1 << 24, MAX, -1, MIN}) {
            dueOfSet(0, set, false);
        }
    }

    private static void atMost24Processes() {
        Check.sentence("PROCESSES (24 in all, those that ended, too)");
        LabelKernel k = new LabelKernel();
        for (int p = 1; p < 24; p++) {
            Check.due("process " + p, k.spawn(p - 1, 0, 0, 0, 0), p);
        }
        Check.due("a 25th", k.spawn(0, 0, 0, 0, 0), FULL);
        Check.due("the last is one as others are", k.tag(23, OWN), 0);
        Check.due("the last makes none, either", k.spawn(23, 0, 0, 0, 0), FULL);
        Check.due("24 processes", k.count(1), 24);
        Check.due("the last ends", k.exit(23), 0);
        Check.due("none in its place", k.spawn(0, 0, 0, 0, 0), FULL);
        k.exit(1);
        Check.due("nor in another's", k.spawn(0, 0, 0, 0, 0), FULL);
        Check.due("22 processes", k.count(1), 22);
        LabelKernel j = new LabelKernel();
        for (int p = 1; p < 24; p++) {
            Check.due("process " + p, j.spawn(0, 0, 0, 0, 0), p);
            Check.due("ends", j.exit(p), 0);
        }
        Check.due("one is left", j.count(1), 1);
        Check.due("none behind 23 that ended", j.spawn(0, 0, 0, 0, 0), FULL);
    }

    private static void everybodyOwnsNothingAtFirst() {
        Check.sentence("EVERYBODY has two SETS, too (empty at first).");
        LabelKernel k = new LabelKernel();
        Check.dueFromZero("everybody", k::everybody, 0, 0);
        k.tag(0, OWN);
        Check.dueFromZero("everybody, behind an own tag", k::everybody, 0, 0);
    }

    /** Tags: 1 a secret, 2 a seal, 4 .. 32 own ones; of these process 1 owns 8 and 32 in PLUS, 16 and 32 in MINUS. */
    private static LabelKernel allWays() {
        LabelKernel k = Check.withTags(SECRET, SEAL, OWN, OWN, OWN, OWN);
        k.spawn(0, 0, 0, 40, 48);
        return k;
    }

    private static void canAddCanTakeAndBoth() {
        Check.sentence("CAN ADD of a PROCESS: what is in its PLUS or in EVERYBODY's; CAN TAKE: in its MINUS or in EVERYBODY's; BOTH: what is in both of these.");
        int canAdd = 1 | 8 | 32;
        int canTake = 2 | 16 | 32;
        Check.due("BOTH of process 1", allWays().told(1, 6), 32);
        Check.due("BOTH of process 0, the maker", allWays().told(0, 6), 63);
        for (int bit = 1; bit < 64; bit *= 2) {
            for (int what = 0; what < 2; what++) {
                LabelKernel k = allWays();
                Check.due("adding " + bit, k.label(1, what, bit), (bit & canAdd) != 0 ? 0 : DENIED);
                k.spawn(0, what == 0 ? bit : 0, what == 1 ? bit : 0, 40, 48);
                Check.due("taking " + bit, k.label(2, what, 0), (bit & canTake) != 0 ? bit : DENIED);
            }
        }
        LabelKernel k = Check.withTags(SECRET, SEAL);
        k.spawn(0, 0, 0, 2, 1);
        k.spawn(0, 0, 0, 0, 1);
        k.spawn(0, 0, 0, 2, 0);
        k.spawn(0, 0, 0, 0, 0);
        Check.due("BOTH of who owns the rest of both", k.told(1, 6), 3);
        Check.due("BOTH of who takes the secret", k.told(2, 6), 1);
        Check.due("BOTH of who adds the seal", k.told(3, 6), 2);
        Check.due("BOTH of who owns nothing", k.told(4, 6), 0);
    }

    private static void kindsOfTags() {
        Check.sentence("0 SECRET: it is in EVERYBODY's PLUS, and in its maker's MINUS. 1 SEAL: in EVERYBODY's MINUS, and its maker's PLUS. 2 OWN: in its maker's PLUS and MINUS.");
        int[][] due = {{1, 0, 0, 1}, {0, 1, 1, 0}, {0, 0, 1, 1}};
        for (int kind = SECRET; kind <= OWN; kind++) {
            LabelKernel k = Check.withTags(kind);
            k.spawn(0, 0, 0, 0, 0);
            Check.dueFromZero("everybody of kind " + kind, k::everybody, due[kind][0], due[kind][1]);
            Check.dueFromZero("its maker's, kind " + kind, what -> k.told(0, what), 0, 0, due[kind][2], due[kind][3]);
            Check.dueFromZero("another one's, kind " + kind, what -> k.told(1, what), 0, 0, 0, 0);
            Check.due("by another one", k.tag(1, kind), 1);
            Check.dueFromZero("the first maker's", what -> k.told(0, what), 0, 0, due[kind][2], due[kind][3]);
            Check.dueFromZero("the second maker's", what -> k.told(1, what), 0, 0, 2 * due[kind][2], 2 * due[kind][3]);
            Check.dueFromZero("everybody of both", k::everybody, 3 * due[kind][0], 3 * due[kind][1]);
        }
    }

    private static void process0AtFirst() {
        Check.sentence("PROCESS 0 is there at first: its LABEL is empty, it OWNS nothing, and is of no PARENT.");
        LabelKernel k = new LabelKernel();
        Check.dueFromZero("told of 0", what -> k.told(0, what), 0, 0, 0, 0, NONE, 0, 0, OUTSIDE);
        Check.due("process 1", k.told(1, 0), UNKNOWN);
    }

    /** Of four tags the process that changes owns none of the first, 2 and 8 in PLUS, 4 and 8 in MINUS. */
    private static boolean isSafe(int a, int b) {
        return (b & ~a & ~10) == 0 && (a & ~b & ~12) == 0;
    }

    private static void safeChangesOfLabels() {
        Check.sentence("A CHANGE of a SET a into b (of SECRETS, or of SEALS) is SAFE for a PROCESS, if what is in b, but not in a, is in CAN ADD, and what is in a, but not in b, in CAN TAKE.");
        for (int a = 0; a < 16; a++) {
            for (int what = 0; what < 2; what++) {
                LabelKernel k = Check.withTags(OWN, OWN, OWN, OWN);
                for (int b = 0; b < 16; b++) {
                    int p = what == 0 ? k.spawn(0, a, 5, 10, 12) : k.spawn(0, 5, a, 10, 12);
                    Check.due("label " + what + " from " + a + " to " + b, k.label(p, what, b), isSafe(a, b) ? a : DENIED);
                    Check.due("it now", k.told(p, what), isSafe(a, b) ? b : a);
                    Check.due("the other one", k.told(p, 1 - what), 5);
                }
            }
        }
    }

    private static void safeChangesInSpawn() {
        Check.sentence("DENIED: a CHANGE of p's SECRETS, or SEALS into these is not SAFE for p;");
        for (int a = 0; a < 16; a++) {
            for (int what = 0; what < 2; what++) {
                LabelKernel k = Check.withTags(OWN, OWN, OWN, OWN);
                int p = what == 0 ? k.spawn(0, a, 5, 10, 12) : k.spawn(0, 5, a, 10, 12);
                int made = p;
                for (int b = 0; b < 16; b++) {
                    made += isSafe(a, b) ? 1 : 0;
                    int got = what == 0 ? k.spawn(p, b, 5, 0, 0) : k.spawn(p, 5, b, 0, 0);
                    Check.due("spawn from " + a + " into " + b, got, isSafe(a, b) ? made : DENIED);
                    if (isSafe(a, b)) {
                        Check.due("its label", k.told(made, what), b);
                    }
                }
                Check.due("the maker's label", k.told(p, what), a);
            }
        }
        LabelKernel k = Check.withTags(OWN, OWN);
        k.spawn(0, 0, 0, 1, 1);
        Check.due("safe secrets, seals that are not", k.spawn(1, 1, 2, 0, 0), DENIED);
        Check.due("safe seals, secrets that are not", k.spawn(1, 2, 1, 0, 0), DENIED);
        Check.due("both safe", k.spawn(1, 1, 1, 0, 0), 2);
    }

    private static void aNewObject() {
        Check.sentence("PROCESS 0, CONTAINER 0; no TAGS, no ENDPOINTS; no crash is told.");
        LabelKernel k = new LabelKernel();
        Check.dueFromZero("count", k::count, 0, 1, 0, 1, 0, 0, 0, OUTSIDE);
        Check.due("a set of a tag", k.label(0, 0, 1), OUTSIDE);
        Check.due("endpoint 0", k.port(0, 0), UNKNOWN);
        Check.due("object 1", k.object(0, 1, 0), UNKNOWN);
        Check.due("no crash", k.file(0, 0, 0, 0), 1);
    }

    private static void tagsKinds() {
        Check.sentence("A TAG of a KIND, made by PROCESS p: its number. UNKNOWN, OUTSIDE, FULL.");
        LabelKernel k = new LabelKernel();
        Check.dueForEach("tag of kind", OUTSIDE, kind -> k.tag(0, kind), -1, 3, 4, MIN, MAX);
        Check.due("no tags", k.count(0), 0);
        Check.dueFromZero("tag of kind", kind -> k.tag(0, kind), 0, 1, 2, OUTSIDE);
        Check.due("three tags", k.count(0), 3);
    }

    private static void everybodysWhat() {
        Check.sentence("EVERYBODY's PLUS (what = 0), MINUS (1). OUTSIDE.");
        LabelKernel k = Check.withTags(SECRET, SEAL);
        Check.dueFromZero("everybody", k::everybody, 1, 2, OUTSIDE);
        Check.dueForEach("everybody", OUTSIDE, k::everybody, -1, 3, MIN, MAX);
    }

    private static void toldsWhat() {
        Check.sentence("Of PROCESS p: what = 0 its SECRETS, 1 its SEALS, 2 its PLUS, 3 its MINUS");
        LabelKernel k = Check.withTags(OWN, OWN, OWN, OWN, SECRET, SEAL);
        k.spawn(0, 1, 2, 4, 8);
        k.spawn(0, 0, 0, 44, 24);
        k.endpoint(1, 1, 2);
        Check.dueFromZero("told of 1", what -> k.told(1, what), 1, 2, 4, 8, 0, 1, 0, OUTSIDE);
        Check.dueFromZero("told of 2", what -> k.told(2, what), 0, 0, 44, 24, 0, 0, 56, OUTSIDE);
        Check.dueForEach("told of 1", OUTSIDE, what -> k.told(1, what), -1, 7, 8, MIN, MAX);
    }

    private static void toldsParent() {
        Check.sentence("4 the PROCESS that made it (NONE)");
        LabelKernel k = new LabelKernel();
        k.spawn(0, 0, 0, 0, 0);
        k.spawn(1, 0, 0, 0, 0);
        k.spawn(0, 0, 0, 0, 0);
        Check.dueFromZero("parents", p -> k.told(p, 4), NONE, 0, 1, 0);
        k.exit(1);
        Check.due("one that ended", k.told(2, 4), 1);
    }

    private static void toldsEndpoints() {
        Check.sentence("5 how many ENDPOINTS it has that are open, 6 BOTH.");
        LabelKernel k = Check.withTags(OWN);
        k.spawn(0, 0, 0, 1, 0);
        IntUnaryOperator open = p -> k.told(p, 5);
        Check.dueFromZero("none", open, 0, 0);
        for (int e = 0; e < 40; e++) {
            k.endpoint(e < 3 ? 1 : 0, 0, 0);
        }
        Check.dueFromZero("all 40", open, 37, 3);
        k.close(1, 0);
        k.close(0, 39);
        Check.dueFromZero("the first and the last closed", open, 36, 2);
        Check.dueFromZero("BOTH", p -> k.told(p, 6), 1, 0);
    }

    private static void labelsWhat() {
        Check.sentence("UNKNOWN, OUTSIDE (what, the SET); DENIED: the CHANGE is not SAFE;");
        LabelKernel k = Check.withTags(OWN, OWN);
        k.spawn(0, 1, 2, 0, 0);
        Check.dueForEach("label of what", OUTSIDE, what -> k.label(1, what, 0), -1, 2, 3, 4, MIN, MAX);
        Check.dueForEach("secrets", OUTSIDE, set -> k.label(1, 0, set), 4, 5, 7, MIN, MAX, -1);
        Check.dueForEach("secrets", DENIED, set -> k.label(1, 0, set), 0, 2, 3);
        Check.dueForEach("seals", DENIED, set -> k.label(1, 1, set), 0, 1, 3);
        Check.due("its secrets", k.told(1, 0), 1);
        Check.due("its seals", k.told(1, 1), 2);
    }

    private static void labelWhatTheyWere() {
        Check.sentence("PROCESS p's SECRETS (what = 0), SEALS (1) become a SET: what they were.");
        LabelKernel k = Check.withTags(OWN, OWN);
        Check.due("secrets", k.label(0, 0, 3), 0);
        Check.due("seals", k.label(0, 1, 1), 0);
        Check.due("the same secrets", k.label(0, 0, 3), 3);
        Check.due("less", k.label(0, 0, 2), 3);
        Check.due("other seals", k.label(0, 1, 2), 1);
        Check.due("none", k.label(0, 1, 0), 2);
        Check.dueFromZero("its label", what -> k.told(0, what), 2, 0);
        k.spawn(0, 2, 1, 0, 0);
        Check.due("the same is safe for who owns nothing", k.label(1, 0, 2), 2);
        Check.due("the same seals, too", k.label(1, 1, 1), 1);
    }

    private static void dropsWhat() {
        Check.sentence("UNKNOWN, OUTSIDE; DENIED: an ENDPOINT would not be as told.");
        LabelKernel k = Check.withTags(OWN, OWN);
        k.endpoint(0, 1, 0);
        Check.dueForEach("drop of what", OUTSIDE, what -> k.drop(0, what, 3), -1, 2, 3, 4, MIN, MAX);
        Check.dueForEach("drop of plus", OUTSIDE, set -> k.drop(0, 0, set), 4, 5, MIN, -1);
        Check.dueForEach("drop of minus", OUTSIDE, set -> k.drop(0, 1, set), 4, 5, MIN, -1);
        Check.dueForEach("drop of plus", DENIED, set -> k.drop(0, 0, set), 1, 3);
        Check.dueForEach("drop of minus", DENIED, set -> k.drop(0, 1, set), 1, 3);
        Check.dueFromZero("0", what -> k.told(0, what), 0, 0, 3, 3);
    }

    private static void dropAllThatIsLeft() {
        Check.sentence("PROCESS p does not OWN what is in a SET any more, in its PLUS (what = 0), MINUS (1): all of its PLUS (MINUS) that is left.");
        LabelKernel k = Check.withTags(OWN, OWN, OWN, SECRET, SEAL);
        Check.due("nothing of plus", k.drop(0, 0, 0), 23);
        Check.due("nothing of minus", k.drop(0, 1, 0), 15);
        Check.due("one of plus", k.drop(0, 0, 2), 21);
        Check.due("two of minus", k.drop(0, 1, 5), 10);
        Check.due("again", k.drop(0, 1, 5), 10);
        Check.due("what it has not, too", k.drop(0, 0, 27), 4);
        Check.due("all of plus", k.drop(0, 0, 31), 0);
        Check.due("minus is as it was", k.drop(0, 1, 0), 10);
        Check.due("all of minus", k.drop(0, 1, 31), 0);
        Check.dueFromZero("everybody's stays", k::everybody, 8, 16);
        Check.dueFromZero("0", what -> k.told(0, what), 0, 0, 0, 0, NONE, 0, 0);
    }

    private static void spawnOwnsNoMore() {
        Check.sentence("p does not OWN all of plus, or of minus; FULL.");
        for (int set = 0; set < 64; set++) {
            LabelKernel k = allWays();
            boolean ownsPlus = (set & ~40) == 0;
            boolean ownsMinus = (set & ~48) == 0;
            Check.due("plus " + set, k.spawn(1, 0, 0, set, 0), ownsPlus ? 2 : DENIED);
            Check.due("minus " + set, k.spawn(1, 0, 0, 0, set), !ownsMinus ? DENIED : ownsPlus ? 3 : 2);
            Check.due("its plus", k.told(2, 2), ownsPlus ? set : ownsMinus ? 0 : UNKNOWN);
            Check.due("its minus", k.told(2, 3), ownsPlus ? 0 : ownsMinus ? set : UNKNOWN);
            Check.due("the maker keeps its plus", k.told(1, 2), 40);
            Check.due("the maker keeps its minus", k.told(1, 3), 48);
        }
    }

    private static void exitHowManyWereOpen() {
        Check.sentence("PROCESS p ENDS, its ENDPOINTS are closed: how many were open.");
        for (int open = 0; open <= 39; open += 13) {
            LabelKernel k = new LabelKernel();
            k.spawn(0, 0, 0, 0, 0);
            k.endpoint(0, 0, 0);
            for (int e = 0; e < open; e++) {
                k.endpoint(1, 0, 0);
            }
            Check.due("with " + open, k.exit(1), open);
            Check.due("the first of them", k.port(1, 0), UNKNOWN);
            Check.due("the last of them", k.port(open, 0), open == 0 ? 0 : UNKNOWN);
            Check.due("0's is open", k.port(0, 0), 0);
            Check.due("open in all", k.count(2), 1);
            Check.due("it ended", k.exit(1), UNKNOWN);
        }
        LabelKernel k = new LabelKernel();
        k.spawn(0, 0, 0, 0, 0);
        k.endpoint(1, 0, 0);
        k.endpoint(1, 0, 0);
        k.close(1, 0);
        Check.due("one of two was closed", k.exit(1), 1);
    }

    private static void exitOf0() {
        Check.sentence("how many were open. UNKNOWN; DENIED: 0.");
        LabelKernel k = new LabelKernel();
        k.spawn(0, 0, 0, 0, 0);
        k.endpoint(0, 0, 0);
        Check.due("0", k.exit(0), DENIED);
        Check.due("its endpoint is open", k.port(0, 0), 0);
        Check.due("it is there", k.told(0, 5), 1);
        Check.dueForEach("exit", UNKNOWN, k::exit, -1, 2, 23, 24, MIN, MAX);
        Check.due("1", k.exit(1), 0);
        Check.due("0, alone", k.exit(0), DENIED);
        Check.due("one process", k.count(1), 1);
    }
}
