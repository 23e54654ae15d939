/** Each sentence of section 3 on files, and of promises 18 to 20, that names a boundary. */
public final class FileSentencesTest {
    private static final int UNKNOWN = LabelKernel.UNKNOWN, OUTSIDE = LabelKernel.OUTSIDE;
    private static final int DENIED = LabelKernel.DENIED, FULL = LabelKernel.FULL, CRASHED = LabelKernel.CRASHED;
    private static final int SECRET = Check.SECRET, OWN = Check.OWN;
    private static final int MIN = Check.MIN, MAX = Check.MAX;

    public static void main(String[] args) {
        upTo32Numbers();
        noneAtFirst();
        writeUpToHowManyItHas();
        writeNot0To31();
        writeAnyNumber();
        writeWhereItCantWrite();
        writeAboveHowManyItHas();
        writeWithoutABlock();
        writeBlindAbove();
        writeBlindWithoutABlock();
        blindAsIfItHadBeenDone();
        blindButForCrashed();
        appendOneToEightTimes();
        appendWraps();
        appendMoreThan32();
        appendWithoutSoManyBlocks();
        appendAllInOneCall();
        appendBlindMoreThan32();
        appendBlindWithoutSoManyBlocks();
        readNoSuchNumber();
        readDeniedAheadOfOutside();
        readAsARefusal();
        Check.end();
    }

    private static LabelKernel withFile(int secrets, int blocks) {
        LabelKernel k = Check.withTags(OWN);
        k.container(0, 0, 0, 0, blocks, 9);
        k.file(0, 1, secrets, 0);
        return k;
    }

    /** Writes so many numbers, by eight and by one. */
    private static void fill(LabelKernel k, int f, int numbers) {
        for (int n = 0; n < numbers / 8; n++) {
            k.append(0, f, 8, 8 * n);
        }
        for (int n = numbers / 8 * 8; n < numbers; n++) {
            k.append(0, f, 1, n);
        }
    }

    private static void upTo32Numbers() {
        Check.sentence("A FILE has up to 32 NUMBERS");
        LabelKernel k = withFile(0, 100);
        for (int i = 0; i < 32; i++) {
            Check.due("write " + i, k.write(0, 2, i, 100 - i), 1);
            Check.due("numbers", k.object(0, 2, 4), i + 1);
        }
        Check.due("a 33rd by write", k.write(0, 2, 32, 5), OUTSIDE);
        Check.due("a 33rd by append", k.append(0, 2, 1, 5), FULL);
        for (int i = 0; i < 32; i++) {
            Check.due("read " + i, k.read(0, 2, i), 100 - i);
        }
        Check.due("32 numbers", k.object(0, 2, 4), 32);
        Check.due("eight blocks", k.object(0, 1, 5), 92);
    }

    private static void noneAtFirst() {
        Check.sentence("(none at first).");
        LabelKernel k = withFile(0, 100);
        Check.due("numbers", k.object(0, 2, 4), 0);
        Check.due("blocks left", k.object(0, 1, 5), 100);
        Check.due("number 0", k.read(0, 2, 0), OUTSIDE);
        fill(k, 2, 5);
        k.remove(0, 2);
        Check.due("another one", k.file(0, 1, 0, 0), 3);
        Check.due("its numbers", k.object(0, 3, 4), 0);
        Check.due("its number 0", k.read(0, 3, 0), OUTSIDE);
    }

    private static void writeUpToHowManyItHas() {
        Check.sentence("PROCESS p writes NUMBER i of FILE f (i up to how many it has: one more, at its end): 1.");
        for (int has = 0; has <= 9; has++) {
            for (int i = 0; i <= has; i++) {
                LabelKernel k = withFile(0, 100);
                fill(k, 2, has);
                Check.due("write " + i + " of " + has, k.write(0, 2, i, 77), 1);
                Check.due("numbers", k.object(0, 2, 4), Math.max(has, i + 1));
                for (int at = 0; at < has; at++) {
                    Check.due("read " + at, k.read(0, 2, at), at == i ? 77 : at);
                }
                Check.due("what was written", k.read(0, 2, i), 77);
            }
        }
    }

    private static void writeNot0To31() {
        Check.sentence("OUTSIDE (i not 0 .. 31)");
        LabelKernel k = withFile(0, 100);
        fill(k, 2, 31);
        Check.dueForEach("write", OUTSIDE, i -> k.write(0, 2, i, 5), -1, -2, 32, 33, 64, MIN, MAX);
        Check.due("31 numbers", k.object(0, 2, 4), 31);
        Check.due("0", k.write(0, 2, 0, 5), 1);
        Check.due("31", k.write(0, 2, 31, 5), 1);
        Check.dueForEach("write", OUTSIDE, i -> k.write(0, 2, i, 5), -1, 32, MIN, MAX);
        LabelKernel blind = withFile(1, 100);
        Check.dueForEach("blind write", OUTSIDE, i -> blind.write(0, 2, i, 5), -1, 32, 33, MIN, MAX);
        blind.label(0, 0, 1);
        Check.due("no numbers", blind.object(0, 2, 4), 0);
    }

    private static void writeAnyNumber() {
        Check.sentence("PROCESS p writes NUMBER i of FILE f");
        LabelKernel k = withFile(0, 100);
        int at = 0;
        for (int v : new int[] {0, -1, MIN, MAX, UNKNOWN, OUTSIDE, DENIED, FULL, CRASHED}) {
            Check.due("write of " + v, k.write(0, 2, at, v), 1);
            Check.due("read of " + v, k.read(0, 2, at), v);
            at++;
        }
    }

    private static void writeWhereItCantWrite() {
        Check.sentence("DENIED (p can't WRITE it), behind that OUTSIDE");
        LabelKernel k = withFile(0, 1);
        fill(k, 2, 4);
        k.label(0, 0, 1);
        for (int i = 0; i < 32; i++) {
            Check.due("write " + i, k.write(0, 2, i, 5), DENIED);
        }
        Check.due("write 32", k.write(0, 2, 32, 5), OUTSIDE);
        Check.due("write -1", k.write(0, 2, -1, 5), OUTSIDE);
        Check.due("append", k.append(0, 2, 1, 5), DENIED);
        Check.dueFromZero("what stands there", i -> k.read(0, 2, i), 0, 1, 2, 3, OUTSIDE);
    }

    private static void writeAboveHowManyItHas() {
        Check.sentence("behind that OUTSIDE (unless BLIND: i is above how many it has)");
        for (int has = 0; has < 31; has += 5) {
            LabelKernel k = withFile(0, 100);
            fill(k, 2, has);
            Check.due("one above, of " + has, k.write(0, 2, has + 1, 5), OUTSIDE);
            Check.due("31, of " + has, k.write(0, 2, 31, 5), OUTSIDE);
            Check.due("numbers", k.object(0, 2, 4), has);
            Check.due("at its end, of " + has, k.write(0, 2, has, 5), 1);
            Check.due("numbers", k.object(0, 2, 4), has + 1);
        }
        LabelKernel full = withFile(0, 1);
        fill(full, 2, 4);
        Check.due("above, ahead of full", full.write(0, 2, 5, 5), OUTSIDE);
        Check.due("at its end", full.write(0, 2, 4, 5), FULL);
    }

    private static void writeWithoutABlock() {
        Check.sentence("FULL (unless BLIND: the CONTAINER has no BLOCK LEFT)");
        for (int blocks = 0; blocks <= 8; blocks++) {
            LabelKernel k = withFile(0, blocks);
            for (int i = 0; i < 4 * blocks; i++) {
                Check.due("write " + i + " with " + blocks, k.write(0, 2, i, i), 1);
            }
            int due = blocks == 8 ? OUTSIDE : FULL;
            Check.due("write behind " + blocks + " blocks", k.write(0, 2, 4 * blocks, 5), due);
            Check.due("numbers", k.object(0, 2, 4), 4 * blocks);
            Check.due("blocks left", k.object(0, 1, 5), 0);
        }
        LabelKernel k = withFile(0, 2);
        k.file(0, 1, 0, 0);
        k.write(0, 2, 0, 5);
        k.write(0, 3, 0, 5);
        Check.due("behind its first, in its block", k.write(0, 2, 1, 6), 1);
        fill(k, 2, 2);
        Check.due("a block is another one's", k.write(0, 2, 4, 5), FULL);
        k.remove(0, 3);
        Check.due("it is left", k.write(0, 2, 4, 5), 1);
        LabelKernel j = withFile(0, 2);
        j.container(0, 1, 0, 0, 2, 0);
        Check.due("the blocks are an inner container's", j.write(0, 2, 0, 5), FULL);
        j.remove(0, 3);
        Check.due("they are left", j.write(0, 2, 0, 5), 1);
    }

    private static void writeBlindAbove() {
        Check.sentence("(BLIND: i above how many it has, or no BLOCK: nothing changes, no ENTRIES; 1.)");
        for (int has = 0; has < 31; has += 5) {
            LabelKernel k = withFile(1, 100);
            fill(k, 2, has);
            int entries = k.count(4);
            for (int i = has + 1; i < 32; i++) {
                Check.due("blind write " + i + " of " + has, k.write(0, 2, i, 5), 1);
            }
            Check.due("no entries", k.count(4), entries);
            Check.due("no block", k.object(0, 1, 5), 100 - (has + 3) / 4);
            Check.due("blind write at its end", k.write(0, 2, has, 7), 1);
            Check.due("entries", k.count(4), entries + 2);
            k.label(0, 0, 1);
            Check.due("numbers", k.object(0, 2, 4), has + 1);
            Check.due("the last", k.read(0, 2, has), 7);
        }
    }

    private static void writeBlindWithoutABlock() {
        Check.sentence("or no BLOCK: nothing changes, no ENTRIES; 1.)");
        for (int blocks = 0; blocks < 3; blocks++) {
            LabelKernel k = withFile(1, blocks);
            fill(k, 2, 4 * blocks);
            int entries = k.count(4);
            Check.due("blind write behind " + blocks + " blocks", k.write(0, 2, 4 * blocks, 5), 1);
            k.crash(0);
            Check.due("a crash told", k.write(0, 2, 4 * blocks, 5), 1);
            Check.due("no crash", k.count(5), 0);
            k.crash(-1);
            Check.due("no entries", k.count(4), entries);
            k.label(0, 0, 1);
            Check.due("numbers", k.object(0, 2, 4), 4 * blocks);
            Check.due("where it can read", k.write(0, 2, 4 * blocks, 5), FULL);
        }
    }

    private static void blindAsIfItHadBeenDone() {
        Check.sentence("BLIND: what a PROCESS does to a FILE that it can WRITE but not READ is answered as if it had been done, whether there was room or not");
        LabelKernel k = withFile(1, 1);
        for (int n = 0; n < 40; n++) {
            Check.due("blind append", k.append(0, 2, 1 + n % 8, n), 1);
            Check.due("blind write", k.write(0, 2, n % 32, n), 1);
        }
        k.label(0, 0, 1);
        Check.due("numbers", k.object(0, 2, 4), 4);
        k.label(0, 0, 0);
        Check.due("blind, of one removed", k.remove(0, 2), 1);
        Check.due("is no more", k.append(0, 2, 1, 5), UNKNOWN);
        LabelKernel j = withFile(0, 1);
        j.label(0, 1, 1);
        for (int n = 1; n <= 8; n++) {
            Check.due("sealed append", j.append(0, 2, n, n), 1);
            Check.due("sealed write", j.write(0, 2, n + 1, -n), 1);
        }
        j.label(0, 1, 0);
        Check.dueFromZero("what was written", i -> j.read(0, 2, i), 1, 2, 3, -2, OUTSIDE);
    }

    private static void blindButForCrashed() {
        Check.sentence("(but for CRASHED, which comes where a crash was told and ENTRIES are made); if there was none, nothing changes.");
        LabelKernel k = withFile(1, 2);
        fill(k, 2, 3);
        k.crash(0);
        Check.due("write above", k.write(0, 2, 4, 9), 1);
        Check.due("append without a block", k.append(0, 2, 6, 9), 1);
        Check.due("no crash yet", k.count(5), 0);
        Check.due("append in its block", k.append(0, 2, 1, 9), CRASHED);
        Check.due("cut", k.count(4), 12);
        k.crash(1);
        Check.due("write, cut", k.write(0, 2, 0, 9), CRASHED);
        k.crash(2);
        Check.due("write, done", k.write(0, 2, 0, 9), CRASHED);
        Check.due("entries", k.count(4), 14);
        Check.due("crashes", k.count(5), 3);
        LabelKernel j = Check.withTags(SECRET);
        j.file(0, 0, 1, 0);
        j.crash(3);
        Check.due("append, done", j.append(0, 1, 2, 6), CRASHED);
        j.label(0, 0, 1);
        Check.dueFromZero("what was written", i -> j.read(0, 1, i), 6, 7, OUTSIDE);
    }

    private static void appendOneToEightTimes() {
        Check.sentence("PROCESS p writes v, v + 1, .. n times (1 .. 8; wrapping) behind the NUMBERS of FILE f");
        for (int n = 1; n <= 8; n++) {
            LabelKernel k = withFile(0, 100);
            Check.due("append " + n, k.append(0, 2, n, 40), 1);
            Check.due("numbers", k.object(0, 2, 4), n);
            Check.due("append 2", k.append(0, 2, 2, 90), 1);
            for (int i = 0; i < n; i++) {
                Check.due("read " + i, k.read(0, 2, i), 40 + i);
            }
            Check.due("behind them", k.read(0, 2, n), 90);
            Check.due("and one", k.read(0, 2, n + 1), 91);
            Check.due("and no more", k.read(0, 2, n + 2), OUTSIDE);
        }
        LabelKernel k = withFile(0, 100);
        Check.dueForEach("append", OUTSIDE, n -> k.append(0, 2, n, 5), 0, -1, -8, 9, 10, 32, 33, MIN, MAX);
        Check.due("numbers", k.object(0, 2, 4), 0);
        LabelKernel blind = withFile(1, 100);
        Check.dueForEach("blind append", OUTSIDE, n -> blind.append(0, 2, n, 5), 0, -1, 9, 33, MIN, MAX);
    }

    private static void appendWraps() {
        Check.sentence("n times (1 .. 8; wrapping)");
        LabelKernel k = withFile(0, 100);
        k.append(0, 2, 8, MAX - 3);
        Check.dueFromZero("read", i -> k.read(0, 2, i), MAX - 3, MAX - 2, MAX - 1, MAX, MIN, MIN + 1, MIN + 2, MIN + 3);
        k.append(0, 2, 1, MAX);
        k.append(0, 2, 2, MAX);
        k.append(0, 2, 3, -1);
        Check.dueFromZero("read from 8", i -> k.read(0, 2, 8 + i), MAX, MAX, MIN, -1, 0, 1, OUTSIDE);
        k.append(0, 2, 1, MIN);
        Check.due("MIN", k.read(0, 2, 14), MIN);
    }

    private static void appendMoreThan32() {
        Check.sentence("FULL (unless BLIND: more than 32 NUMBERS");
        for (int has = 23; has <= 32; has++) {
            for (int n = 1; n <= 8; n++) {
                LabelKernel k = withFile(0, 100);
                fill(k, 2, has);
                int entries = k.count(4);
                boolean fits = has + n <= 32;
                Check.due("append " + n + " to " + has, k.append(0, 2, n, 500), fits ? 1 : FULL);
                Check.due("numbers", k.object(0, 2, 4), fits ? has + n : has);
                Check.due("the last", k.read(0, 2, fits ? has + n - 1 : has - 1), fits ? 500 + n - 1 : has - 1);
                Check.due("entries", k.count(4), fits ? entries + n + 1 : entries);
            }
        }
    }

    private static void appendWithoutSoManyBlocks() {
        Check.sentence("or not so many BLOCKS LEFT)");
        for (int blocks = 0; blocks <= 5; blocks++) {
            for (int has = 0; has <= 4 * blocks && has <= 9; has++) {
                for (int n = 1; n <= 8; n++) {
                    LabelKernel k = withFile(0, blocks);
                    fill(k, 2, has);
                    boolean fits = has + n <= 4 * blocks;
                    String name = "append " + n + " to " + has + " in " + blocks + " blocks";
                    Check.due(name, k.append(0, 2, n, 500), fits ? 1 : FULL);
                    Check.due(name + ", numbers", k.object(0, 2, 4), fits ? has + n : has);
                    int taken = ((fits ? has + n : has) + 3) / 4;
                    Check.due(name + ", blocks left", k.object(0, 1, 5), blocks - taken);
                }
            }
        }
    }

    private static void appendAllInOneCall() {
        Check.sentence("all in one call: 1.");
        for (int n = 1; n <= 8; n++) {
            LabelKernel k = withFile(0, 100);
            int entries = k.count(4);
            k.append(0, 2, n, 5);
            Check.due("entries of " + n, k.count(4), entries + n + 1);
            k.crash(n);
            Check.due("cut", k.append(0, 2, n, 5), CRASHED);
            Check.due("numbers", k.object(0, 2, 4), n);
            k.crash(n + 1);
            Check.due("not cut", k.append(0, 2, n, 5), CRASHED);
            Check.due("numbers", k.object(0, 2, 4), 2 * n);
        }
    }

    private static void appendBlindMoreThan32() {
        Check.sentence("(BLIND: then nothing changes; 1.)");
        for (int has = 25; has <= 32; has++) {
            LabelKernel k = withFile(1, 100);
            fill(k, 2, has);
            int entries = k.count(4);
            for (int n = 33 - has; n <= 8; n++) {
                Check.due("blind append " + n + " to " + has, k.append(0, 2, n, 500), 1);
            }
            k.crash(0);
            Check.due("a crash told", k.append(0, 2, 8, 500), 1);
            k.crash(-1);
            Check.due("no entries", k.count(4), entries);
            k.label(0, 0, 1);
            Check.due("numbers", k.object(0, 2, 4), has);
            Check.due("the last", k.read(0, 2, has - 1), has - 1);
        }
    }

    private static void appendBlindWithoutSoManyBlocks() {
        Check.sentence("or not so many BLOCKS LEFT), CRASHED. (BLIND: then nothing changes; 1.)");
        for (int has = 0; has <= 8; has++) {
            LabelKernel k = withFile(1, 2);
            fill(k, 2, has);
            int entries = k.count(4);
            for (int n = 9 - has; n <= 8; n++) {
                Check.due("blind append " + n + " to " + has + " of 8", k.append(0, 2, n, 500), 1);
            }
            Check.due("no entries", k.count(4), entries);
            Check.due("blocks left", k.object(0, 1, 5), 2 - (has + 3) / 4);
            Check.due("what there is room for", has == 8 ? 1 : k.append(0, 2, 8 - has, 600), 1);
            Check.due("no block is left", k.object(0, 1, 5), 0);
            k.label(0, 0, 1);
            Check.due("numbers", k.object(0, 2, 4), 8);
            Check.due("number 7", k.read(0, 2, 7), has == 8 ? 7 : 600 + 7 - has);
        }
    }

    private static void readNoSuchNumber() {
        Check.sentence("OUTSIDE (no such NUMBER), in this order.");
        for (int has = 0; has <= 32; has++) {
            LabelKernel k = withFile(0, 100);
            fill(k, 2, has);
            Check.dueForEach("read of " + has, OUTSIDE, i -> k.read(0, 2, i), -1, has, has + 1, 32, 33, MIN, MAX);
            if (has > 0) {
                Check.due("the first of " + has, k.read(0, 2, 0), 0);
                Check.due("the last of " + has, k.read(0, 2, has - 1), has - 1);
            }
        }
    }

    private static void readDeniedAheadOfOutside() {
        Check.sentence("UNKNOWN (also a CONTAINER), DENIED (p can't READ it), OUTSIDE (no such NUMBER), in this order.");
        LabelKernel k = withFile(1, 100);
        fill(k, 2, 2);
        Check.dueForEach("read by one that can't", DENIED, i -> k.read(0, 2, i), -1, 0, 1, 2, 32, MIN, MAX);
        Check.dueForEach("read of a container", UNKNOWN, i -> k.read(0, 1, i), -1, 0, 32);
        Check.dueForEach("read of none", UNKNOWN, i -> k.read(0, 3, i), -1, 0, 32);
        Check.dueForEach("read by none", UNKNOWN, i -> k.read(1, 2, i), -1, 0, 32);
        k.label(0, 0, 1);
        Check.dueFromZero("read by one that can", i -> k.read(0, 2, i), 0, 1, OUTSIDE);
    }

    private static void readAsARefusal() {
        Check.sentence("(What is told may be as a refusal is.)");
        LabelKernel k = withFile(0, 100);
        k.append(0, 2, 6, CRASHED);
        Check.dueFromZero("read", i -> k.read(0, 2, i), CRASHED, FULL, DENIED, OUTSIDE, UNKNOWN, -1000000, OUTSIDE);
    }
}
