/** Each sentence of section 3 and of promises 15 to 17, 21 and 22 that names a boundary. */
public final class ObjectSentencesTest {
    private static final int NONE = LabelKernel.NONE, UNKNOWN = LabelKernel.UNKNOWN, OUTSIDE = LabelKernel.OUTSIDE;
    private static final int DENIED = LabelKernel.DENIED, FULL = LabelKernel.FULL, CRASHED = LabelKernel.CRASHED;
    private static final int SECRET = Check.SECRET, OWN = Check.OWN;
    private static final int MIN = Check.MIN, MAX = Check.MAX;

    public static void main(String[] args) {
        objectsThatThereAreNot();
        objectsThatWereRemoved();
        filesAreNoContainers();
        atMost60Objects();
        container0AtFirst();
        canWriteAndCanRead();
        sealedCanWriteAndNotRead();
        anObjectTakesOneObject();
        aFileTakesBlocksByFour();
        aContainerTakesItsRoomUsedOrNot();
        leftIsWhatIsNotTaken();
        madeByOneThatCanReadAndWrite();
        madeWithALabelThatFlows();
        labelsNeverChange();
        removedByOneThatCanReadAndWrite();
        removedAtAnyDepth();
        containerBounds();
        containerHasNotSoMuchLeft();
        fileFull();
        removeContainer0();
        objectWhats();
        objectDeniedByWhat();
        listByNumbers();
        listOfOneThatItCantRead();
        Check.end();
    }

    private static void dueOfObject(LabelKernel k, int o, int due) {
        Check.due("container in " + o, k.container(0, o, 0, 0, 0, 0), due);
        Check.due("file in " + o, k.file(0, o, 0, 0), due);
        Check.due("remove of " + o, k.remove(0, o), due);
        Check.due("write of " + o, k.write(0, o, 0, 0), due);
        Check.due("append to " + o, k.append(0, o, 1, 0), due);
        Check.due("read of " + o, k.read(0, o, 0), due);
        Check.due("object " + o, k.object(0, o, 0), due);
        Check.due("list of " + o, k.list(0, o, 0), due);
    }

    private static void objectsThatThereAreNot() {
        Check.sentence("UNKNOWN (a PROCESS, TAG, ENDPOINT, OBJECT that there is not");
        for (int o : new int[] {-1, 2, 3, 58, 59, 60, 61, MIN, MAX}) {
            LabelKernel k = new LabelKernel();
            Check.due("a file", k.file(0, 0, 0, 0), 1);
            dueOfObject(k, o, UNKNOWN);
            Check.due("objects", k.count(3), 2);
            Check.due("entries", k.count(4), 3);
        }
    }

    private static void objectsThatWereRemoved() {
        Check.sentence("or is no more)");
        LabelKernel k = new LabelKernel();
        k.container(0, 0, 0, 0, 50, 9);
        k.file(0, 1, 0, 0);
        k.append(0, 2, 5, 0);
        k.container(0, 1, 0, 0, 9, 3);
        k.file(0, 3, 0, 0);
        Check.due("a file", k.remove(0, 2), 1);
        dueOfObject(k, 2, UNKNOWN);
        Check.due("a container with a container", k.remove(0, 1), 1);
        for (int o = 1; o < 5; o++) {
            dueOfObject(k, o, UNKNOWN);
        }
        k.file(0, 0, 0, 0);
        k.crash(100);
        Check.due("a crash", k.remove(0, 5), CRASHED);
        dueOfObject(k, 5, UNKNOWN);
        Check.due("one is there", k.count(3), 1);
    }

    private static void filesAreNoContainers() {
        Check.sentence("UNKNOWN (also: c is a FILE)");
        LabelKernel k = new LabelKernel();
        k.file(0, 0, 0, 0);
        k.container(0, 0, 0, 0, 0, 0);
        Check.due("container in a file", k.container(0, 1, 0, 0, 0, 0), UNKNOWN);
        Check.due("file in a file", k.file(0, 1, 0, 0), UNKNOWN);
        Check.due("list of a file", k.list(0, 1, 0), UNKNOWN);
        for (int o = 0; o < 3; o += 2) {
            Check.due("write of a container", k.write(0, o, 0, 5), UNKNOWN);
            Check.due("append to a container", k.append(0, o, 1, 5), UNKNOWN);
            Check.due("read of a container", k.read(0, o, 0), UNKNOWN);
        }
        Check.due("nothing was made", k.count(3), 3);
    }

    private static void atMost60Objects() {
        Check.sentence("OBJECTS (60 in all, those that were removed, too)");
        LabelKernel k = new LabelKernel();
        for (int o = 1; o < 60; o++) {
            boolean isContainer = o % 2 == 0;
            int made = isContainer ? k.container(0, 0, 0, 0, 1, 0) : k.file(0, 0, 0, 0);
            Check.due("object " + o, made, o);
            if (o > 40) {
                Check.due("remove " + o, k.remove(0, o), 1);
            }
        }
        Check.due("there is room", k.object(0, 0, 6), 10);
        Check.due("a 61st as file", k.file(0, 0, 0, 0), FULL);
        Check.due("a 61st as container", k.container(0, 0, 0, 0, 0, 0), FULL);
        Check.due("41 are there", k.count(3), 41);
        k.remove(0, 1);
        Check.due("none in another's place", k.file(0, 0, 0, 0), FULL);
        Check.due("40 are there", k.count(3), 40);
        LabelKernel j = new LabelKernel();
        for (int o = 1; o < 60; o++) {
            Check.due("object " + o, j.file(0, 0, 0, 0), o);
            Check.due("remove " + o, o < 59 ? j.remove(0, o) : 1, 1);
        }
        Check.due("the last can be written", j.append(0, 59, 8, 0), 1);
        Check.due("it has its place", j.list(0, 0, 0), 59);
        Check.due("a 61st behind 58 that were removed", j.file(0, 0, 0, 0), FULL);
    }

    private static void container0AtFirst() {
        Check.sentence("CONTAINER 0 is there at first, with an empty LABEL, ROOM for 200 BLOCKS and 50 OBJECTS, and stands in none.");
        LabelKernel k = new LabelKernel();
        Check.dueFromZero("object 0", what -> k.object(0, 0, what), 1, 0, 0, NONE, 0, 200, 50, OUTSIDE);
        Check.due("200 blocks, and 49 objects beside its own", k.container(0, 0, 0, 0, 200, 49), 1);
        Check.dueFromZero("object 0", what -> k.object(0, 0, what), 1, 0, 0, NONE, 0, 0, 0);
        Check.due("it does not stand in itself", k.list(0, 0, 1), NONE);
        LabelKernel j = new LabelKernel();
        for (int o = 1; o <= 50; o++) {
            Check.due("file " + o, j.file(0, 0, 0, 0), o);
        }
        Check.due("a 51st in it", j.file(0, 0, 0, 0), FULL);
        for (int o = 1; o <= 25; o++) {
            for (int n = 0; n < 4; n++) {
                Check.due("append to " + o, j.append(0, o, 8, 0), 1);
            }
        }
        Check.due("no block is left", j.object(0, 0, 5), 0);
        Check.due("a 201st block", j.append(0, 26, 1, 0), FULL);
    }

    private static void canWriteAndCanRead() {
        Check.sentence("A PROCESS can WRITE an OBJECT, if its LABEL FLOWS TO that of the OBJECT, and READ it, if that of the OBJECT FLOWS TO its own.");
        for (int own = 0; own < 4; own++) {
            for (int secrets = 0; secrets < 4; secrets++) {
                LabelKernel k = Check.withTags(OWN, OWN);
                k.file(0, 0, secrets, 0);
                k.container(0, 0, secrets, 0, 1, 1);
                k.label(0, 0, own);
                String name = "of " + secrets + " by " + own;
                boolean reads = (secrets & ~own) == 0;
                boolean writes = (own & ~secrets) == 0;
                Check.due("write " + name, k.write(0, 1, 0, 5), writes ? 1 : DENIED);
                Check.due("append " + name, k.append(0, 1, 1, 6), writes ? 1 : DENIED);
                Check.due("read " + name, k.read(0, 1, 0), !reads ? DENIED : writes ? 5 : OUTSIDE);
                Check.due("numbers " + name, k.object(0, 1, 4), !reads ? DENIED : writes ? 2 : 0);
                Check.due("blocks left " + name, k.object(0, 2, 5), reads ? 1 : DENIED);
                Check.due("list " + name, k.list(0, 2, 0), reads ? NONE : DENIED);
                Check.due("file in it " + name, k.file(0, 2, secrets, 0), reads && writes ? 3 : DENIED);
                Check.due("container in it " + name, k.container(0, 2, secrets, 0, 0, 0), reads && writes ? FULL : DENIED);
            }
        }
    }

    private static void sealedCanWriteAndNotRead() {
        Check.sentence("READ it, if that of the OBJECT FLOWS TO its own.");
        LabelKernel k = Check.withTags(OWN);
        k.file(0, 0, 0, 0);
        k.append(0, 1, 1, 5);
        k.label(0, 1, 1);
        Check.due("write", k.write(0, 1, 0, 6), 1);
        Check.due("append", k.append(0, 1, 1, 7), 1);
        Check.due("read", k.read(0, 1, 0), DENIED);
        Check.due("list", k.list(0, 0, 0), DENIED);
        Check.due("numbers", k.object(0, 1, 4), DENIED);
        Check.due("file", k.file(0, 0, 0, 0), DENIED);
        Check.due("container", k.container(0, 0, 0, 0, 0, 0), DENIED);
        Check.due("remove", k.remove(0, 1), DENIED);
        k.label(0, 1, 0);
        Check.due("what it wrote", k.read(0, 1, 0), 6);
        Check.due("and appended", k.read(0, 1, 1), 7);
    }

    private static void anObjectTakesOneObject() {
        Check.sentence("An OBJECT that stands in it takes one OBJECT;");
        LabelKernel k = new LabelKernel();
        k.container(0, 0, 0, 0, 0, 2);
        Check.due("a file", k.file(0, 1, 0, 0), 2);
        Check.due("one is left", k.object(0, 1, 6), 1);
        Check.due("a container without room", k.container(0, 1, 0, 0, 0, 0), 3);
        Check.due("none is left", k.object(0, 1, 6), 0);
        Check.due("a third", k.container(0, 1, 0, 0, 0, 0), FULL);
        Check.due("a third file", k.file(0, 1, 0, 0), FULL);
        Check.due("one without room has none", k.file(0, 3, 0, 0), FULL);
        k.remove(0, 2);
        Check.due("one is left again", k.object(0, 1, 6), 1);
        Check.due("for a file", k.file(0, 1, 0, 0), 4);
    }

    private static void aFileTakesBlocksByFour() {
        Check.sentence("a FILE also as many BLOCKS as it has NUMBERS, by four, rounded up;");
        LabelKernel k = new LabelKernel();
        k.file(0, 0, 0, 0);
        for (int n = 0; n <= 32; n++) {
            Check.due("blocks left with " + n + " numbers", k.object(0, 0, 5), 200 - (n + 3) / 4);
            k.append(0, 1, n < 32 ? 1 : 9, n);
        }
        for (int n = 1; n <= 8; n++) {
            LabelKernel j = new LabelKernel();
            j.file(0, 0, 0, 0);
            j.append(0, 1, n, 0);
            Check.due("blocks left, by one call of " + n, j.object(0, 0, 5), n <= 4 ? 199 : 198);
            j.write(0, 1, 0, 9);
            Check.due("the same when one is written again", j.object(0, 0, 5), n <= 4 ? 199 : 198);
            j.remove(0, 1);
            Check.due("all when it is removed", j.object(0, 0, 5), 200);
        }
    }

    private static void aContainerTakesItsRoomUsedOrNot() {
        Check.sentence("a CONTAINER all the BLOCKS and OBJECTS of its own ROOM as well, used or not.");
        LabelKernel k = new LabelKernel();
        k.container(0, 0, 0, 0, 7, 4);
        Check.due("blocks, not used", k.object(0, 0, 5), 193);
        Check.due("objects, not used", k.object(0, 0, 6), 45);
        k.file(0, 1, 0, 0);
        k.append(0, 2, 8, 0);
        k.container(0, 1, 0, 0, 5, 2);
        Check.due("blocks, used", k.object(0, 0, 5), 193);
        Check.due("objects, used", k.object(0, 0, 6), 45);
        Check.due("in it all blocks are used", k.object(0, 1, 5), 0);
        Check.due("and all objects", k.object(0, 1, 6), 0);
        Check.due("the inner one has its own", k.object(0, 3, 5) * 10 + k.object(0, 3, 6), 52);
        Check.due("no block for its file", k.append(0, 2, 1, 0), FULL);
        k.remove(0, 1);
        Check.due("all are left again", k.object(0, 0, 5) * 100 + k.object(0, 0, 6), 20050);
    }

    private static void leftIsWhatIsNotTaken() {
        Check.sentence("LEFT is what is not taken.");
        LabelKernel k = new LabelKernel();
        k.container(0, 0, 0, 0, 50, 20);
        k.container(0, 1, 0, 0, 20, 10);
        k.container(0, 1, 0, 0, 10, 3);
        k.file(0, 1, 0, 0);
        k.append(0, 4, 5, 0);
        k.file(0, 2, 0, 0);
        k.append(0, 5, 1, 0);
        int[][] due = {{150, 29}, {18, 4}, {19, 9}, {10, 3}};
        for (int c = 0; c < due.length; c++) {
            Check.due("blocks left in " + c, k.object(0, c, 5), due[c][0]);
            Check.due("objects left in " + c, k.object(0, c, 6), due[c][1]);
        }
        k.remove(0, 3);
        Check.due("blocks left without 3", k.object(0, 1, 5), 28);
        Check.due("objects left without 3", k.object(0, 1, 6), 8);
    }

    private static void madeByOneThatCanReadAndWrite() {
        Check.sentence("An OBJECT is made by a PROCESS that can READ and WRITE the CONTAINER in which it is to stand");
        LabelKernel k = Check.withTags(OWN);
        k.container(0, 0, 1, 0, 9, 9);
        Check.due("a file in one that it can write alone", k.file(0, 1, 1, 0), DENIED);
        Check.due("a container there", k.container(0, 1, 1, 0, 0, 0), DENIED);
        k.label(0, 0, 1);
        Check.due("a file in one that it can read alone", k.file(0, 0, 1, 0), DENIED);
        Check.due("a container there", k.container(0, 0, 1, 0, 0, 0), DENIED);
        Check.due("a file in one that it can read and write", k.file(0, 1, 1, 0), 2);
        Check.due("a container there", k.container(0, 1, 1, 0, 0, 0), 3);
        k.label(0, 1, 1);
        Check.due("a file in one that it can't read for its seals", k.file(0, 1, 1, 0), DENIED);
        Check.due("a container there", k.container(0, 1, 1, 0, 0, 0), DENIED);
        Check.due("four are there", k.count(3), 4);
    }

    private static void madeWithALabelThatFlows() {
        Check.sentence("with a LABEL to which that of the CONTAINER FLOWS, and that of the PROCESS, too.");
        for (int label = 0; label < 4; label++) {
            LabelKernel k = Check.withTags(OWN, OWN);
            k.container(0, 0, label, 0, 9, 9);
            k.label(0, 0, label);
            int made = 2;
            for (int set = 0; set < 4; set++) {
                boolean flows = (label & ~set) == 0;
                String name = " of " + set + " in " + label;
                Check.due("file" + name, k.file(0, 1, set, 0), flows ? made : DENIED);
                made += flows ? 1 : 0;
                Check.due("container" + name, k.container(0, 1, set, 0, 0, 0), flows ? made : DENIED);
                made += flows ? 1 : 0;
                for (int seals = 1; seals < 4; seals++) {
                    Check.due("sealed file" + name, k.file(0, 1, set, seals), DENIED);
                    Check.due("sealed container" + name, k.container(0, 1, set, seals, 0, 0), DENIED);
                }
            }
            Check.due("all", k.count(3), made);
        }
    }

    private static void labelsNeverChange() {
        Check.sentence("each has a LABEL that never changes.");
        LabelKernel k = Check.withTags(OWN, SECRET);
        k.file(0, 0, 3, 0);
        k.container(0, 0, 2, 0, 1, 1);
        k.label(0, 0, 3);
        k.write(0, 1, 0, 5);
        k.label(0, 0, 0);
        k.drop(0, 0, 1);
        k.crash(0);
        k.file(0, 0, 0, 0);
        Check.dueFromZero("secrets", o -> k.object(0, o, 1), 0, 3, 2);
        Check.dueFromZero("seals", o -> k.object(0, o, 2), 0, 0, 0);
    }

    private static void removedByOneThatCanReadAndWrite() {
        Check.sentence("An OBJECT is removed by a PROCESS that can READ and WRITE the CONTAINER in which it stands;");
        LabelKernel k = Check.withTags(OWN, OWN);
        k.container(0, 0, 1, 0, 9, 9);
        k.file(0, 0, 3, 0);
        k.label(0, 0, 1);
        k.file(0, 1, 1, 0);
        Check.due("one that it can read and write, in one that it can read alone", k.remove(0, 1), DENIED);
        k.label(0, 0, 0);
        Check.due("in one that it can write alone", k.remove(0, 3), DENIED);
        k.label(0, 1, 1);
        Check.due("by a sealed one", k.remove(0, 2), DENIED);
        k.label(0, 1, 0);
        Check.due("one that it can't read, in one that it can read and write", k.remove(0, 2), 1);
        Check.due("a container that it can't read", k.remove(0, 1), 1);
        Check.due("one is there", k.count(3), 1);
        k.spawn(0, 0, 0, 0, 0);
        k.file(0, 0, 0, 0);
        Check.due("one that another one made", k.remove(1, 4), 1);
    }

    private static void removedAtAnyDepth() {
        Check.sentence("with a CONTAINER goes all that stands in it, at any depth.");
        for (int top = 1; top < 50; top += 16) {
            LabelKernel k = new LabelKernel();
            for (int depth = 0; depth < 49; depth++) {
                Check.due("depth " + depth, k.container(0, depth, 0, 0, 8, 49 - depth), depth + 1);
            }
            Check.due("a file at the end", k.file(0, 49, 0, 0), 50);
            Check.due("remove " + top, k.remove(0, top), 1);
            Check.due("the rest", k.count(3), top);
            Check.due("the last that is there", k.object(0, top - 1, 0), 1);
            for (int o = top; o <= 50; o++) {
                Check.due("object " + o, k.object(0, o, 0), UNKNOWN);
            }
            Check.due("in the last that is there", k.list(0, top - 1, 0), NONE);
            Check.due("its objects are left", k.object(0, top - 1, 6), 51 - top);
        }
        LabelKernel k = new LabelKernel();
        k.container(0, 0, 0, 0, 9, 20);
        k.container(0, 0, 0, 0, 9, 20);
        k.file(0, 1, 0, 0);
        k.file(0, 2, 0, 0);
        k.container(0, 1, 0, 0, 1, 1);
        k.container(0, 2, 0, 0, 1, 1);
        k.file(0, 5, 0, 0);
        k.file(0, 6, 0, 0);
        k.file(0, 0, 0, 0);
        Check.due("remove 1", k.remove(0, 1), 1);
        Check.dueForEach("gone", UNKNOWN, o -> k.object(0, o, 0), 1, 3, 5, 7);
        Check.dueForEach("there", 0, o -> k.object(0, o, 2), 0, 2, 4, 6, 8, 9);
        Check.due("a file alone", k.remove(0, 8), 1);
        Check.dueForEach("there", 0, o -> k.object(0, o, 2), 0, 2, 4, 6, 9);
    }

    private static void containerBounds() {
        Check.sentence("OUTSIDE (SETS; BLOCKS 0 .. 200, OBJECTS 0 .. 50);");
        LabelKernel k = new LabelKernel();
        Check.dueForEach("blocks", OUTSIDE, n -> k.container(0, 0, 0, 0, n, 0), -1, 201, 202, 1000, MIN, MAX);
        Check.dueForEach("objects", OUTSIDE, n -> k.container(0, 0, 0, 0, 0, n), -1, 51, 52, 1000, MIN, MAX);
        Check.due("none was made", k.count(3), 1);
        Check.due("0 and 0", k.container(0, 0, 0, 0, 0, 0), 1);
        Check.due("50 objects", k.container(0, 0, 0, 0, 0, 50), FULL);
        Check.due("200 blocks", k.container(0, 0, 0, 0, 200, 0), 2);
        Check.due("200 blocks once more", k.container(0, 0, 0, 0, 200, 0), FULL);
        Check.due("201 blocks are outside, not full", k.container(0, 0, 0, 0, 201, 0), OUTSIDE);
        Check.due("51 objects are outside, not full", k.container(0, 0, 0, 0, 0, 51), OUTSIDE);
    }

    private static void containerHasNotSoMuchLeft() {
        Check.sentence("FULL: 60 OBJECTS; c has not so much LEFT; CRASHED.");
        for (int blocks = 9; blocks <= 11; blocks++) {
            for (int objects = 3; objects <= 5; objects++) {
                LabelKernel k = new LabelKernel();
                k.container(0, 0, 0, 0, 12, 6);
                k.file(0, 1, 0, 0);
                k.append(0, 2, 7, 0);
                boolean fits = blocks <= 10 && objects <= 4;
                String name = "container of " + blocks + " and " + objects;
                Check.due(name, k.container(0, 1, 0, 0, blocks, objects), fits ? 3 : FULL);
                Check.due(name + ", blocks left", k.object(0, 1, 5), fits ? 10 - blocks : 10);
                Check.due(name + ", objects left", k.object(0, 1, 6), fits ? 4 - objects : 5);
            }
        }
        LabelKernel k = new LabelKernel();
        k.container(0, 0, 0, 0, 5, 5);
        k.container(0, 1, 0, 0, 5, 0);
        Check.due("no block left for none", k.container(0, 1, 0, 0, 0, 2), 3);
        Check.due("a block", k.container(0, 1, 0, 0, 1, 0), FULL);
        Check.due("one object left for itself", k.container(0, 1, 0, 0, 0, 0), 4);
        Check.due("none for itself", k.container(0, 1, 0, 0, 0, 0), FULL);
        Check.due("0 has blocks, but 1 counts", k.object(0, 0, 5), 195);
    }

    private static void fileFull() {
        Check.sentence("A FILE, made by PROCESS p in CONTAINER c: its number.");
        LabelKernel k = new LabelKernel();
        k.container(0, 0, 0, 0, 0, 1);
        k.container(0, 0, 0, 0, 9, 0);
        Check.due("in one without blocks", k.file(0, 1, 0, 0), 3);
        Check.due("a second one in one for one", k.file(0, 1, 0, 0), FULL);
        Check.due("in one with blocks alone", k.file(0, 2, 0, 0), FULL);
        Check.due("a number, where no block is left", k.write(0, 3, 0, 5), FULL);
        k.remove(0, 3);
        Check.due("when the first is removed", k.file(0, 1, 0, 0), 4);
        Check.dueFromZero("it", what -> k.object(0, 4, what), 0, 0, 0, 1, 0, 0, 0);
    }

    private static void removeContainer0() {
        Check.sentence("OBJECT o is removed by PROCESS p: 1. UNKNOWN; DENIED: CONTAINER 0;");
        LabelKernel k = new LabelKernel();
        Check.due("0, empty", k.remove(0, 0), DENIED);
        k.file(0, 0, 0, 0);
        k.crash(0);
        Check.due("0, a crash told", k.remove(0, 0), DENIED);
        k.crash(NONE);
        Check.due("what stands in it is there", k.list(0, 0, 0), 1);
        Check.due("entries", k.count(4), 3);
        Check.due("1", k.remove(0, 1), 1);
        Check.due("1 again", k.remove(0, 1), UNKNOWN);
        Check.due("objects", k.count(3), 1);
    }

    private static void objectWhats() {
        Check.sentence("what = 0 whether it is a CONTAINER (1, 0), 1 its SECRETS, 2 its SEALS, 3 the CONTAINER in which it stands (NONE); 4 NUMBERS of a FILE (0 of a CONTAINER), 5 BLOCKS, 6 OBJECTS LEFT in a CONTAINER (0 of a FILE).");
        LabelKernel k = Check.withTags(OWN, OWN);
        k.container(0, 0, 2, 0, 10, 5);
        k.label(0, 0, 2);
        k.file(0, 1, 3, 0);
        k.label(0, 0, 3);
        k.append(0, 2, 6, 0);
        Check.dueFromZero("0", what -> k.object(0, 0, what), 1, 0, 0, NONE, 0, 190, 44, OUTSIDE);
        Check.dueFromZero("1", what -> k.object(0, 1, what), 1, 2, 0, 0, 0, 8, 4, OUTSIDE);
        Check.dueFromZero("2", what -> k.object(0, 2, what), 0, 3, 0, 1, 6, 0, 0, OUTSIDE);
        for (int o = 0; o < 3; o++) {
            int object = o;
            Check.dueForEach("of " + o, OUTSIDE, what -> k.object(0, object, what), -1, 7, 8, MIN, MAX);
        }
    }

    private static void objectDeniedByWhat() {
        Check.sentence("DENIED: what is 4 to 6, and p can't READ it; what is 0 to 3, and p can't READ the CONTAINER in which it stands.");
        for (int own = 0; own < 4; own++) {
            LabelKernel k = Check.withTags(OWN, OWN);
            k.container(0, 0, 1, 0, 10, 5);
            k.label(0, 0, 1);
            k.file(0, 1, 3, 0);
            k.label(0, 0, own);
            for (int what = 0; what < 7; what++) {
                boolean seesContainer = what < 4 || (own & 1) == 1;
                boolean seesFile = what < 4 ? (own & 1) == 1 : own == 3;
                String name = what + " by " + own;
                Check.holds(name + " of the container", k.object(0, 1, what) == DENIED != seesContainer);
                Check.holds(name + " of the file", k.object(0, 2, what) == DENIED != seesFile);
                Check.holds(name + " of 0", k.object(0, 0, what) != DENIED);
            }
            k.label(0, 1, 1);
            for (int what = 0; what < 7; what++) {
                Check.due(what + " of 1, sealed", k.object(0, 1, what), DENIED);
                Check.due(what + " of 2, sealed", k.object(0, 2, what), DENIED);
            }
            Check.dueForEach("what by a sealed one", OUTSIDE, what -> k.object(0, 1, what), -1, 7);
        }
    }

    private static void listByNumbers() {
        Check.sentence("The i-th OBJECT, by numbers, that stands in CONTAINER c, read by PROCESS p; NONE.");
        LabelKernel k = Check.withTags(OWN);
        Check.due("in an empty one", k.list(0, 0, 0), NONE);
        k.container(0, 0, 0, 0, 9, 9);
        k.file(0, 1, 0, 0);
        k.file(0, 0, 1, 0);
        k.file(0, 1, 0, 0);
        k.container(0, 0, 1, 0, 0, 0);
        k.file(0, 0, 0, 0);
        Check.dueFromZero("in 0", i -> k.list(0, 0, i), 1, 3, 5, 6, NONE, NONE);
        Check.dueFromZero("in 1", i -> k.list(0, 1, i), 2, 4, NONE);
        Check.dueForEach("i-th", NONE, i -> k.list(0, 0, i), 4, 50, 59, 60, MAX);
        k.remove(0, 3);
        Check.dueFromZero("without 3", i -> k.list(0, 0, i), 1, 5, 6, NONE);
        k.remove(0, 6);
        k.remove(0, 1);
        Check.dueFromZero("without 6 and 1", i -> k.list(0, 0, i), 5, NONE);
        LabelKernel j = new LabelKernel();
        for (int o = 1; o < 60; o++) {
            j.file(0, 0, 0, 0);
            if (o > 10) {
                j.remove(0, o - 10);
            }
        }
        Check.dueFromZero("the last ten", i -> j.list(0, 0, i), 50, 51, 52, 53, 54, 55, 56, 57, 58, 59, NONE);
    }

    private static void listOfOneThatItCantRead() {
        Check.sentence("UNKNOWN (also a FILE); DENIED: p can't READ it.");
        LabelKernel k = Check.withTags(OWN);
        k.container(0, 0, 1, 0, 9, 9);
        k.file(0, 0, 0, 0);
        Check.due("a file", k.list(0, 2, 0), UNKNOWN);
        Check.due("a secret one", k.list(0, 1, 0), DENIED);
        Check.due("a secret one that is empty, far", k.list(0, 1, 99), DENIED);
        k.label(0, 0, 1);
        Check.due("now", k.list(0, 1, 0), NONE);
        Check.due("one that it can't write", k.list(0, 0, 1), 2);
        k.label(0, 1, 1);
        Check.due("sealed", k.list(0, 1, 0), DENIED);
        Check.due("sealed, of 0", k.list(0, 0, 0), DENIED);
    }
}
