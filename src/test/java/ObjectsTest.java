/** Promises 15 to 22: containers and files. */
public final class ObjectsTest {
    private static final int NONE = LabelKernel.NONE, UNKNOWN = LabelKernel.UNKNOWN, OUTSIDE = LabelKernel.OUTSIDE;
    private static final int DENIED = LabelKernel.DENIED, FULL = LabelKernel.FULL, CRASHED = LabelKernel.CRASHED;
    private static final int SECRET = 0, SEAL = 1, OWN = 2;
    private static final int MIN = Integer.MIN_VALUE, MAX = Integer.MAX_VALUE;

    public static void main(String[] args) {
        promise15Refusals();
        promise15Labels();
        promise15Room();
        promise16();
        promise16Full();
        promise17();
        promise17Trees();
        promise18();
        promise18Blocks();
        promise18Blind();
        promise19();
        promise19Blocks();
        promise19Blind();
        promise20();
        promise21();
        promise21Hidden();
        promise22();
        Check.end();
    }

    private static void promise15Refusals() {
        LabelKernel k = Check.withTags(OWN);
        k.file(0, 0, 0, 0);
        Check.due("15: by none", k.container(1, 0, 0, 0, 0, 0), UNKNOWN);
        Check.due("15: in none", k.container(0, 2, 0, 0, 0, 0), UNKNOWN);
        Check.due("15: in -1", k.container(0, -1, 0, 0, 0, 0), UNKNOWN);
        Check.due("15: in 60", k.container(0, 60, 0, 0, 0, 0), UNKNOWN);
        Check.due("15: in a file", k.container(0, 1, 0, 0, 0, 0), UNKNOWN);
        Check.due("15: unknown ahead of outside", k.container(0, 1, 2, 0, 0, 0), UNKNOWN);
        Check.due("15: secrets outside", k.container(0, 0, 2, 0, 0, 0), OUTSIDE);
        Check.due("15: seals outside", k.container(0, 0, 0, MIN, 0, 0), OUTSIDE);
        Check.due("15: blocks -1", k.container(0, 0, 0, 0, -1, 0), OUTSIDE);
        Check.due("15: blocks 201", k.container(0, 0, 0, 0, 201, 0), OUTSIDE);
        Check.due("15: objects -1", k.container(0, 0, 0, 0, 0, -1), OUTSIDE);
        Check.due("15: objects 51", k.container(0, 0, 0, 0, 0, 51), OUTSIDE);
        Check.due("15: objects MAX", k.container(0, 0, 0, 0, 0, MAX), OUTSIDE);
        Check.due("15: objects 50", k.container(0, 0, 0, 0, 0, 50), FULL);
        Check.due("15: objects 49, one is taken", k.container(0, 0, 0, 0, 0, 49), FULL);
        Check.due("15: nothing was made", k.count(3), 2);
        Check.due("15: all that is left", k.container(0, 0, 0, 0, 200, 48), 2);
        Check.due("15: no blocks are left", k.object(0, 0, 5), 0);
        Check.due("15: no objects are left", k.object(0, 0, 6), 0);
        Check.due("15: its blocks", k.object(0, 2, 5), 200);
        Check.due("15: its objects", k.object(0, 2, 6), 48);
        k.remove(0, 1);
        Check.due("15: outside ahead of denied and full", k.container(0, 0, 0, 0, 201, 0), OUTSIDE);
        Check.due("15: no block is left for it", k.container(0, 0, 0, 0, 1, 0), FULL);
        Check.due("15: but an object", k.container(0, 0, 0, 0, 0, 0), 3);
        k.remove(0, 2);
        Check.due("15: in one that was removed", k.container(0, 2, 0, 0, 0, 0), UNKNOWN);
        k.label(0, 0, 1);
        Check.due("15: denied ahead of full", k.container(0, 0, 1, 0, 0, 50), DENIED);
        Check.due("15: outside ahead of denied", k.container(0, 0, 1, 0, 0, 51), OUTSIDE);
    }

    private static void promise15Labels() {
        LabelKernel k = Check.withTags(OWN, OWN);
        Check.due("15: a secret one", k.container(0, 0, 1, 0, 100, 20), 1);
        Check.due("15: a sealed one in an unsealed one", k.container(0, 0, 0, 1, 0, 0), DENIED);
        Check.due("15: in one that it can't read", k.container(0, 1, 3, 0, 0, 0), DENIED);
        k.label(0, 0, 1);
        Check.due("15: in one that it can't write", k.container(0, 0, 1, 0, 0, 0), DENIED);
        Check.due("15: less secret than its container", k.container(0, 1, 0, 0, 0, 0), DENIED);
        Check.due("15: more secret", k.container(0, 1, 3, 0, 10, 2), 2);
        Check.due("15: of the same label", k.container(0, 1, 1, 0, 10, 2), 3);
        k.label(0, 0, 3);
        Check.due("15: a third below", k.container(0, 2, 3, 0, 0, 0), 4);
        k.label(0, 0, 0);
        k.label(0, 1, 3);
        Check.due("15: sealed, in an unsealed one", k.container(0, 0, 0, 0, 0, 0), DENIED);
        Check.due("15: what was denied is not there", k.count(3), 5);
        Check.due("15: entries", k.count(4), 12);
    }

    private static void promise15Room() {
        LabelKernel k = Check.withTags();
        Check.due("15: outer", k.container(0, 0, 0, 0, 50, 10), 1);
        Check.due("15: 0 has less blocks", k.object(0, 0, 5), 150);
        Check.due("15: 0 has less objects", k.object(0, 0, 6), 39);
        Check.due("15: too many blocks", k.container(0, 1, 0, 0, 51, 0), FULL);
        Check.due("15: too many objects", k.container(0, 1, 0, 0, 0, 10), FULL);
        Check.due("15: inner", k.container(0, 1, 0, 0, 20, 3), 2);
        Check.due("15: outer has less blocks", k.object(0, 1, 5), 30);
        Check.due("15: outer has less objects", k.object(0, 1, 6), 6);
        Check.due("15: what stands deeper takes none of 0's", k.object(0, 0, 5) * 100 + k.object(0, 0, 6), 15039);
        k.file(0, 2, 0, 0);
        k.append(0, 3, 5, 0);
        Check.due("15: a file takes the inner's blocks", k.object(0, 2, 5), 18);
        Check.due("15: not the outer's", k.object(0, 1, 5), 30);
        k.crash(2);
        Check.due("15: cut by a crash", k.container(0, 1, 0, 0, 1, 1), CRASHED);
        Check.due("15: is not made", k.count(3), 4);
        k.crash(3);
        Check.due("15: not cut by a crash", k.container(0, 1, 0, 0, 1, 1), CRASHED);
        Check.due("15: is made with the next number", k.object(0, 4, 6), 1);
    }

    private static void promise16() {
        LabelKernel k = Check.withTags(SECRET, SEAL, OWN);
        k.container(0, 0, 4, 0, 5, 3);
        Check.due("16: by none", k.file(1, 0, 8, 0), UNKNOWN);
        Check.due("16: in none", k.file(0, 2, 8, 0), UNKNOWN);
        Check.due("16: secrets outside", k.file(0, 0, 8, 0), OUTSIDE);
        Check.due("16: seals outside", k.file(0, 0, 0, -1), OUTSIDE);
        Check.due("16: sealed in an unsealed one", k.file(0, 0, 0, 2), DENIED);
        Check.due("16: in one that it can't read", k.file(0, 1, 4, 0), DENIED);
        Check.due("16: a secret file", k.file(0, 0, 5, 0), 2);
        Check.due("16: in a file", k.file(0, 2, 5, 0), UNKNOWN);
        Check.due("16: it is a file", k.object(0, 2, 0), 0);
        Check.due("16: its secrets", k.object(0, 2, 1), 5);
        Check.due("16: it stands in 0", k.object(0, 2, 3), 0);
        Check.due("16: it takes an object", k.object(0, 0, 6), 50 - 4 - 1);
        Check.due("16: it takes no block", k.object(0, 0, 5), 195);
        k.label(0, 0, 4);
        Check.due("16: in one that it can't write", k.file(0, 0, 4, 0), DENIED);
        Check.due("16: less secret than its container", k.file(0, 1, 0, 0), DENIED);
        Check.due("16: as its container", k.file(0, 1, 4, 0), 3);
        Check.due("16: it has no numbers", k.object(0, 3, 4), 0);
        Check.due("16: it has no blocks", k.object(0, 3, 5), 0);
        Check.due("16: it has no objects", k.object(0, 3, 6), 0);
        k.file(0, 1, 4, 0);
        Check.due("16: the last", k.file(0, 1, 7, 0), 5);
        Check.due("16: no object is left", k.file(0, 1, 4, 0), FULL);
        Check.due("16: denied ahead of full", k.file(0, 1, 0, 0), DENIED);
        k.remove(0, 3);
        k.crash(2);
        Check.due("16: a refusal is no crash", k.file(0, 0, 0, 0), DENIED);
        k.label(0, 0, 0);
        Check.due("16: cut by a crash", k.file(0, 0, 0, 0), CRASHED);
        Check.due("16: is not made", k.count(3), 5);
        k.crash(3);
        Check.due("16: not cut by a crash", k.file(0, 0, 0, 0), CRASHED);
        Check.due("16: is made with the next number", k.object(0, 6, 0), 0);
    }

    private static void promise16Full() {
        LabelKernel k = Check.withTags(OWN);
        for (int o = 1; o <= 50; o++) {
            Check.due("16: file " + o, k.file(0, 0, 0, 0), o);
        }
        Check.due("16: no room for a 51st", k.file(0, 0, 0, 0), FULL);
        for (int o = 1; o <= 9; o++) {
            k.remove(0, o);
        }
        for (int o = 51; o <= 59; o++) {
            Check.due("16: file " + o, k.file(0, 0, 0, 0), o);
        }
        k.remove(0, 10);
        Check.due("16: there is room", k.object(0, 0, 6), 1);
        k.crash(100);
        Check.due("16: file 60", k.file(0, 0, 0, 0), FULL);
        Check.due("15: container 60", k.container(0, 0, 0, 0, 0, 0), FULL);
        Check.due("16: nor is a refusal a crash", k.count(5), 0);
        Check.due("16: outside ahead of full", k.file(0, 0, 2, 0), OUTSIDE);
        Check.due("16: objects", k.count(3), 50);
        k.crash(NONE);
        Check.due("16: the last can be written", k.write(0, 59, 0, 7), 1);
        Check.due("16: and read", k.read(0, 59, 0), 7);
        Check.due("16: its block is taken", k.object(0, 0, 5), 199);
        Check.due("17: the last can be removed", k.remove(0, 59), 1);
        Check.due("17: is no more", k.object(0, 59, 0), UNKNOWN);
        Check.due("17: entries", k.count(4), 59 * 3 + 10 * 2 + 2 + 2);
    }

    private static void promise17() {
        LabelKernel k = Check.withTags(OWN);
        Check.due("17: container 0", k.remove(0, 0), DENIED);
        Check.due("17: none", k.remove(0, 1), UNKNOWN);
        Check.due("17: by none", k.remove(1, 0), UNKNOWN);
        Check.due("17: -1", k.remove(0, -1), UNKNOWN);
        Check.due("17: 60", k.remove(0, 60), UNKNOWN);
        k.container(0, 0, 1, 0, 9, 9);
        k.label(0, 0, 1);
        k.file(0, 1, 1, 0);
        Check.due("17: in one that it can't write", k.remove(0, 1), DENIED);
        k.label(0, 0, 0);
        Check.due("17: in one that it can't read", k.remove(0, 2), DENIED);
        k.label(0, 1, 1);
        Check.due("17: in one that it can't read for its seals", k.remove(0, 1), DENIED);
        k.label(0, 1, 0);
        Check.due("17: denied changes nothing", k.count(3), 3);
        k.file(0, 0, 1, 0);
        Check.due("17: a file that it can't read", k.remove(0, 3), 1);
        Check.due("17: is no more", k.remove(0, 3), UNKNOWN);
        Check.due("17: its object is left", k.object(0, 0, 6), 50 - 10);
        Check.due("17: a container that it can't read", k.remove(0, 1), 1);
        Check.due("17: and what stood in it", k.object(0, 2, 0), UNKNOWN);
        Check.due("17: all is left", k.object(0, 0, 5) * 100 + k.object(0, 0, 6), 20050);
        Check.due("17: entries", k.count(4), 9 + 2 + 3);
        Check.due("17: no number is given twice", k.file(0, 0, 0, 0), 4);
        k.append(0, 4, 8, 0);
        k.remove(0, 4);
        Check.due("17: its blocks are left", k.object(0, 0, 5), 200);
    }

    private static void promise17Trees() {
        LabelKernel k = Check.withTags();
        k.container(0, 0, 0, 0, 50, 30);
        k.container(0, 0, 0, 0, 50, 10);
        k.container(0, 1, 0, 0, 20, 10);
        k.file(0, 2, 0, 0);
        k.container(0, 3, 0, 0, 10, 5);
        k.file(0, 5, 0, 0);
        k.file(0, 1, 0, 0);
        k.file(0, 0, 0, 0);
        int entries = k.count(4);
        k.crash(5);
        Check.due("17: five with one more are cut at five", k.remove(0, 1), CRASHED);
        Check.due("17: wholly", k.count(3), 9);
        Check.due("17: no entries", k.count(4), entries);
        k.crash(6);
        Check.due("17: and not at six", k.remove(0, 1), CRASHED);
        Check.due("17: wholly", k.count(3), 4);
        Check.due("17: six entries", k.count(4), entries + 6);
        for (int o : new int[] {1, 3, 5, 6, 7}) {
            Check.due("17: gone with it is " + o, k.object(0, o, 0), UNKNOWN);
        }
        for (int o : new int[] {0, 2, 4, 8}) {
            Check.due("17: still there is " + o, k.object(0, o, 1), 0);
        }
        LabelKernel deep = Check.withTags();
        for (int depth = 0; depth < 49; depth++) {
            Check.due("17: depth " + depth, deep.container(0, depth, 0, 0, 0, 49 - depth), depth + 1);
        }
        Check.due("17: the deepest has no room", deep.object(0, 49, 6), 1);
        Check.due("17: from the second on", deep.remove(0, 2), 1);
        Check.due("17: two are left", deep.count(3), 2);
        Check.due("17: entries", deep.count(4), 49 * 3 + 48 + 1);
    }

    private static void promise18() {
        LabelKernel k = Check.withTags(OWN, OWN);
        k.file(0, 0, 0, 0);
        Check.due("18: by none", k.write(1, 1, 0, 5), UNKNOWN);
        Check.due("18: none", k.write(0, 2, 0, 5), UNKNOWN);
        Check.due("18: a container", k.write(0, 0, 0, 5), UNKNOWN);
        Check.due("18: unknown ahead of outside", k.write(0, 0, -1, 5), UNKNOWN);
        Check.due("18: number -1", k.write(0, 1, -1, 5), OUTSIDE);
        Check.due("18: number 32", k.write(0, 1, 32, 5), OUTSIDE);
        Check.due("18: number 1 of none", k.write(0, 1, 1, 5), OUTSIDE);
        Check.due("18: nothing was written", k.object(0, 1, 4), 0);
        Check.due("18: number 0", k.write(0, 1, 0, MIN), 1);
        Check.due("18: number 1", k.write(0, 1, 1, OUTSIDE), 1);
        Check.due("18: number 0 again", k.write(0, 1, 0, MAX), 1);
        Check.due("18: number 3 of two", k.write(0, 1, 3, 5), OUTSIDE);
        Check.due("18: two numbers", k.object(0, 1, 4), 2);
        Check.due("18: what stands at 0", k.read(0, 1, 0), MAX);
        Check.due("18: what stands at 1", k.read(0, 1, 1), OUTSIDE);
        Check.due("18: entries", k.count(4), 3 + 3 * 2);
        k.label(0, 0, 1);
        Check.due("18: one that it can't write", k.write(0, 1, 0, 5), DENIED);
        Check.due("18: denied ahead of above", k.write(0, 1, 31, 5), DENIED);
        Check.due("18: out of bounds ahead of denied", k.write(0, 1, 32, 5), OUTSIDE);
        k.label(0, 0, 0);
        k.label(0, 1, 1);
        Check.due("18: blind by seals", k.write(0, 1, 0, 6), 1);
        Check.due("18: above, blind", k.write(0, 1, 31, 6), 1);
        Check.due("18: above, blind, is not written", k.object(0, 1, 4), DENIED);
        k.label(0, 1, 0);
        Check.due("18: blind by seals was written", k.read(0, 1, 0), 6);
        Check.due("18: and nothing above", k.object(0, 1, 4), 2);
        k.crash(1);
        Check.due("18: cut by a crash", k.write(0, 1, 0, 8), CRASHED);
        Check.due("18: is not written", k.read(0, 1, 0), 6);
        k.crash(2);
        Check.due("18: not cut by a crash", k.write(0, 1, 0, 8), CRASHED);
        Check.due("18: is written", k.read(0, 1, 0), 8);
        k.remove(0, 1);
        Check.due("18: one that was removed", k.write(0, 1, 0, 5), UNKNOWN);
    }

    private static void promise18Blocks() {
        LabelKernel k = Check.withTags();
        k.container(0, 0, 0, 0, 2, 3);
        k.file(0, 1, 0, 0);
        k.file(0, 1, 0, 0);
        for (int i = 0; i < 4; i++) {
            Check.due("18: blocks ahead of " + i, k.object(0, 1, 5), i == 0 ? 2 : 1);
            Check.due("18: write " + i, k.write(0, 2, i, i), 1);
        }
        Check.due("18: a block is left", k.object(0, 1, 5), 1);
        Check.due("18: the other's first", k.write(0, 3, 0, 9), 1);
        Check.due("18: no block is left", k.object(0, 1, 5), 0);
        k.crash(100);
        Check.due("18: a fifth needs one", k.write(0, 2, 4, 4), FULL);
        Check.due("18: above how many it has", k.write(0, 2, 5, 4), OUTSIDE);
        Check.due("18: a refusal is no crash", k.count(5), 0);
        k.crash(NONE);
        Check.due("18: its fourth does not", k.write(0, 2, 3, 7), 1);
        Check.due("18: the other's second does not", k.write(0, 3, 1, 9), 1);
        Check.due("18: nor its fourth", k.write(0, 3, 2, 9) + k.write(0, 3, 3, 9), 2);
        Check.due("18: but its fifth", k.write(0, 3, 4, 9), FULL);
        k.remove(0, 3);
        Check.due("18: with the block of the other", k.write(0, 2, 4, 4), 1);
        LabelKernel j = Check.withTags();
        j.file(0, 0, 0, 0);
        for (int i = 0; i < 32; i++) {
            Check.due("18: number " + i, j.write(0, 1, i, i * i), 1);
        }
        Check.due("18: all 32", j.object(0, 1, 4), 32);
        Check.due("18: in eight blocks", j.object(0, 0, 5), 192);
        Check.due("18: the last", j.write(0, 1, 31, -7), 1);
        Check.due("18: read the last", j.read(0, 1, 31), -7);
        Check.due("18: read the last but one", j.read(0, 1, 30), 900);
    }

    private static void promise18Blind() {
        LabelKernel k = Check.withTags(SECRET);
        k.container(0, 0, 0, 0, 1, 2);
        k.file(0, 1, 1, 0);
        k.crash(0);
        Check.due("18: blind, above", k.write(0, 2, 1, 5), 1);
        Check.due("18: blind, above, is no crash", k.count(5), 0);
        Check.due("18: blind, out of bounds", k.write(0, 2, 32, 5), OUTSIDE);
        k.crash(NONE);
        int entries = k.count(4);
        Check.due("18: blind", k.write(0, 2, 0, 5), 1);
        Check.due("18: blind entries", k.count(4), entries + 2);
        for (int i = 1; i < 4; i++) {
            k.write(0, 2, i, 5 + i);
        }
        Check.due("18: blind, no block", k.write(0, 2, 4, 9), 1);
        Check.due("18: no entries", k.count(4), entries + 8);
        k.crash(100);
        Check.due("18: blind, no block, no crash", k.write(0, 2, 4, 9), 1);
        Check.due("18: no crash", k.count(5), 0);
        Check.due("18: blind, crash", k.write(0, 2, 3, 9), CRASHED);
        Check.due("18: a crash", k.count(5), 1);
        k.label(0, 0, 1);
        Check.due("18: four numbers", k.object(0, 2, 4), 4);
        Check.due("18: number 0", k.read(0, 2, 0), 5);
        Check.due("18: number 3", k.read(0, 2, 3), 9);
        Check.due("18: no block, seen", k.write(0, 2, 4, 9), FULL);
    }

    private static void promise19() {
        LabelKernel k = Check.withTags(OWN);
        k.file(0, 0, 0, 0);
        Check.due("19: by none", k.append(1, 1, 0, 5), UNKNOWN);
        Check.due("19: none", k.append(0, 2, 0, 5), UNKNOWN);
        Check.due("19: a container", k.append(0, 0, 1, 5), UNKNOWN);
        Check.due("19: n 0", k.append(0, 1, 0, 5), OUTSIDE);
        Check.due("19: n 9", k.append(0, 1, 9, 5), OUTSIDE);
        Check.due("19: n MIN", k.append(0, 1, MIN, 5), OUTSIDE);
        Check.due("19: one", k.append(0, 1, 1, 5), 1);
        Check.due("19: eight, wrapping", k.append(0, 1, 8, MAX - 1), 1);
        int[] due = {5, MAX - 1, MAX, MIN, MIN + 1, MIN + 2, MIN + 3, MIN + 4, MIN + 5};
        for (int i = 0; i < due.length; i++) {
            Check.due("19: read " + i, k.read(0, 1, i), due[i]);
        }
        Check.due("19: nine numbers", k.object(0, 1, 4), 9);
        Check.due("19: three blocks", k.object(0, 0, 5), 197);
        Check.due("19: entries", k.count(4), 3 + 2 + 9);
        k.label(0, 0, 1);
        Check.due("19: one that it can't write", k.append(0, 1, 1, 5), DENIED);
        Check.due("19: outside ahead of denied", k.append(0, 1, 9, 5), OUTSIDE);
        k.label(0, 0, 0);
        k.append(0, 1, 8, 0);
        k.append(0, 1, 8, 0);
        Check.due("19: 25 and 8 are too many", k.append(0, 1, 8, 0), FULL);
        Check.due("19: 25 and 7 are not", k.append(0, 1, 7, 0), 1);
        Check.due("19: 32", k.object(0, 1, 4), 32);
        Check.due("19: and one", k.append(0, 1, 1, 0), FULL);
        Check.due("19: the last", k.read(0, 1, 31), 6);
        k.file(0, 0, 0, 0);
        k.crash(3);
        Check.due("19: cut by a crash", k.append(0, 2, 3, 0), CRASHED);
        Check.due("19: none is written", k.object(0, 2, 4), 0);
        k.crash(4);
        Check.due("19: not cut by a crash", k.append(0, 2, 3, 0), CRASHED);
        Check.due("19: all are written", k.object(0, 2, 4), 3);
    }

    private static void promise19Blocks() {
        LabelKernel k = Check.withTags();
        k.container(0, 0, 0, 0, 3, 2);
        k.file(0, 1, 0, 0);
        k.file(0, 1, 0, 0);
        Check.due("19: two blocks", k.append(0, 2, 5, 0), 1);
        k.crash(100);
        Check.due("19: two blocks more", k.append(0, 3, 5, 0), FULL);
        Check.due("19: full is no crash", k.count(5), 0);
        k.crash(NONE);
        Check.due("19: nothing was written", k.object(0, 3, 4), 0);
        Check.due("19: one block more", k.append(0, 3, 4, 0), 1);
        Check.due("19: three in the block that there is", k.append(0, 2, 3, 0), 1);
        Check.due("19: a ninth", k.append(0, 2, 1, 0), FULL);
        Check.due("19: no block is left", k.object(0, 1, 5), 0);
    }

    private static void promise19Blind() {
        LabelKernel k = Check.withTags(OWN);
        k.container(0, 0, 0, 0, 9, 2);
        k.file(0, 1, 1, 0);
        k.container(0, 1, 0, 0, 1, 0);
        for (int n = 0; n < 3; n++) {
            Check.due("19: blind", k.append(0, 2, 8, n), 1);
        }
        k.append(0, 2, 7, 3);
        int entries = k.count(4);
        Check.due("19: blind, 31 and 2", k.append(0, 2, 2, 50), 1);
        Check.due("19: no entries", k.count(4), entries);
        Check.due("19: blind, out of bounds", k.append(0, 2, 9, 50), OUTSIDE);
        Check.due("19: blind, 31 and 1", k.append(0, 2, 1, 60), 1);
        k.crash(0);
        Check.due("19: blind, no crash", k.append(0, 2, 1, 70), 1);
        Check.due("19: no crash", k.count(5), 0);
        k.label(0, 0, 1);
        Check.due("19: 32 numbers", k.object(0, 2, 4), 32);
        Check.due("19: the last", k.read(0, 2, 31), 60);
        LabelKernel j = Check.withTags(SECRET);
        j.container(0, 0, 0, 0, 1, 1);
        j.file(0, 1, 1, 0);
        Check.due("19: blind, two blocks of one", j.append(0, 2, 5, 1), 1);
        Check.due("19: blind, one of one", j.append(0, 2, 3, 7), 1);
        j.crash(2);
        Check.due("19: blind, not cut by a crash", j.append(0, 2, 1, 9), CRASHED);
        j.label(0, 0, 1);
        Check.due("19: four numbers", j.object(0, 2, 4), 4);
        Check.due("19: the fourth", j.read(0, 2, 3), 9);
        Check.due("19: the first", j.read(0, 2, 0), 7);
        Check.due("19: full, not blind", j.append(0, 2, 1, 9), FULL);
    }

    private static void promise20() {
        LabelKernel k = Check.withTags(OWN);
        k.file(0, 0, 1, 0);
        k.file(0, 0, 0, 0);
        k.append(0, 2, 3, DENIED);
        Check.due("20: by none", k.read(1, 2, 0), UNKNOWN);
        Check.due("20: none", k.read(0, 3, 0), UNKNOWN);
        Check.due("20: -1", k.read(0, -1, 0), UNKNOWN);
        Check.due("20: a container", k.read(0, 0, 0), UNKNOWN);
        Check.due("20: one that it can't read", k.read(0, 1, 0), DENIED);
        Check.due("20: denied ahead of outside", k.read(0, 1, -1), DENIED);
        Check.due("20: number -1", k.read(0, 2, -1), OUTSIDE);
        Check.due("20: number 3 of three", k.read(0, 2, 3), OUTSIDE);
        Check.due("20: number MAX", k.read(0, 2, MAX), OUTSIDE);
        Check.due("20: number 0", k.read(0, 2, 0), DENIED);
        Check.due("20: number 2", k.read(0, 2, 2), DENIED + 2);
        k.label(0, 0, 1);
        Check.due("20: one that it can read, but not write", k.read(0, 2, 1), DENIED + 1);
        Check.due("20: one that has none", k.read(0, 1, 0), OUTSIDE);
        k.label(0, 0, 0);
        k.label(0, 1, 1);
        Check.due("20: by one that is sealed", k.read(0, 2, 0), DENIED);
        k.label(0, 0, 1);
        Check.due("20: secrets are no seals", k.read(0, 1, 0), DENIED);
        k.label(0, 0, 0);
        k.label(0, 1, 0);
        k.remove(0, 2);
        Check.due("20: one that was removed", k.read(0, 2, 0), UNKNOWN);
    }

    private static void promise21() {
        LabelKernel k = Check.withTags(OWN, OWN);
        k.container(0, 0, 3, 0, 10, 5);
        k.label(0, 0, 3);
        k.container(0, 1, 3, 0, 2, 1);
        k.file(0, 1, 3, 0);
        k.append(0, 3, 5, 0);
        int[][] due = {{1, 0, 0, NONE, 0, 190, 44}, {1, 3, 0, 0, 0, 6, 2}, {1, 3, 0, 1, 0, 2, 1}, {0, 3, 0, 1, 5, 0, 0}};
        for (int o = 0; o < due.length; o++) {
            for (int what = 0; what < 7; what++) {
                Check.due("21: object(0, " + o + ", " + what + ")", k.object(0, o, what), due[o][what]);
            }
        }
        Check.due("21: by none", k.object(1, 0, 0), UNKNOWN);
        Check.due("21: none", k.object(0, 4, 7), UNKNOWN);
        Check.due("21: -1", k.object(0, -1, 0), UNKNOWN);
        Check.due("21: 60", k.object(0, 60, 0), UNKNOWN);
        Check.due("21: what -1", k.object(0, 0, -1), OUTSIDE);
        Check.due("21: what 7", k.object(0, 0, 7), OUTSIDE);
        k.label(0, 0, 0);
        Check.due("21: outside ahead of denied", k.object(0, 1, 7), OUTSIDE);
        k.remove(0, 1);
        Check.due("21: one that was removed", k.object(0, 1, 0), UNKNOWN);
        Check.due("21: one that went with it", k.object(0, 3, 4), UNKNOWN);
    }

    private static void promise21Hidden() {
        LabelKernel k = Check.withTags(OWN, SEAL);
        k.container(0, 0, 1, 0, 10, 5);
        k.label(0, 0, 1);
        k.file(0, 1, 1, 0);
        k.label(0, 0, 0);
        for (int what = 0; what < 4; what++) {
            Check.due("21: " + what + " of one in a readable one", k.object(0, 1, what), new int[] {1, 1, 0, 0}[what]);
            Check.due("21: " + what + " of one in another", k.object(0, 2, what), DENIED);
        }
        for (int what = 4; what < 7; what++) {
            Check.due("21: " + what + " of one that it can't read", k.object(0, 1, what), DENIED);
            Check.due("21: " + what + " of a file that it can't read", k.object(0, 2, what), DENIED);
        }
        k.label(0, 1, 2);
        Check.due("21: sealed, container 0 stands in none", k.object(0, 0, 0), 1);
        Check.due("21: sealed, container 0's container", k.object(0, 0, 3), NONE);
        Check.due("21: sealed, container 0's blocks", k.object(0, 0, 5), DENIED);
        Check.due("21: sealed, what stands in 0", k.object(0, 1, 0), DENIED);
        LabelKernel j = Check.withTags(OWN);
        j.container(0, 0, 0, 0, 10, 5);
        j.file(0, 1, 1, 0);
        Check.due("21: a file's label", j.object(0, 2, 1), 1);
        Check.due("21: a file's seals", j.object(0, 2, 2), 0);
        Check.due("21: a secret file's numbers", j.object(0, 2, 4), DENIED);
        j.label(0, 0, 1);
        Check.due("21: now", j.object(0, 2, 4), 0);
    }

    private static void promise22() {
        LabelKernel k = Check.withTags(OWN);
        k.container(0, 0, 0, 0, 10, 5);
        k.file(0, 0, 1, 0);
        k.file(0, 1, 0, 0);
        k.container(0, 0, 1, 0, 1, 1);
        k.file(0, 1, 1, 0);
        k.file(0, 0, 0, 0);
        int[][] due = {{1, 2, 4, 6, NONE}, {3, 5, NONE, NONE, NONE}};
        for (int c = 0; c < due.length; c++) {
            for (int i = 0; i < 5; i++) {
                Check.due("22: list(0, " + c + ", " + i + ")", k.list(0, c, i), due[c][i]);
            }
        }
        Check.due("22: -1", k.list(0, 0, -1), NONE);
        Check.due("22: MIN", k.list(0, 0, MIN), NONE);
        Check.due("22: MAX", k.list(0, 0, MAX), NONE);
        Check.due("22: by none", k.list(1, 0, 0), UNKNOWN);
        Check.due("22: none", k.list(0, 7, 0), UNKNOWN);
        Check.due("22: -1", k.list(0, -1, 0), UNKNOWN);
        Check.due("22: a file", k.list(0, 2, 0), UNKNOWN);
        Check.due("22: one that it can't read", k.list(0, 4, 0), DENIED);
        Check.due("22: denied ahead of none", k.list(0, 4, -1), DENIED);
        k.remove(0, 2);
        Check.due("22: those behind move up", k.list(0, 0, 1), 4);
        k.label(0, 0, 1);
        Check.due("22: one that it can read, but not write", k.list(0, 0, 2), 6);
        Check.due("22: an empty one", k.list(0, 4, 0), NONE);
        k.label(0, 0, 0);
        k.remove(0, 1);
        Check.due("22: one that was removed", k.list(0, 1, 0), UNKNOWN);
    }
}
