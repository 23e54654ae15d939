import java.util.ArrayList;
import java.util.List;

/** Kernels in which much has happened, and all that can be seen of them. */
final class World {
    private static final int SECRET = Check.SECRET, SEAL = Check.SEAL, OWN = Check.OWN;

    private World() {
    }

    /**
     * Tags: 1 a secret, 2 a seal, 4 and 8 own ones, all of process 0.
     * Processes: 0; 1 owns plus 12, minus 12; 2 is secret by 1 and 4 sealed by 2, they own nothing; 3 ended.
     * Endpoints: 0 and 4 (secrets 4, seals 8) of process 0; 1 of process 1, with one message; 2 of process 2, with a
     * full queue; 3 is closed.
     * Objects: in 0 stand the full container 1, the secret file 4, the secret container 5, the full file 6; 7 was
     * removed; in 1 stand file 2 of five numbers, file 3 of four, and container 8 without room; in 5 stands file 9.
     */
    static LabelKernel busy() {
        LabelKernel k = Check.withTags(SECRET, SEAL, OWN, OWN);
        k.spawn(0, 0, 0, 12, 4);
        k.spawn(0, 1, 0, 0, 0);
        k.spawn(0, 0, 0, 0, 0);
        k.spawn(0, 0, 2, 0, 0);
        k.exit(3);
        k.endpoint(0, 0, 0);
        k.endpoint(1, 4, 0);
        k.endpoint(2, 1, 0);
        k.endpoint(1, 0, 0);
        k.endpoint(0, 4, 8);
        k.close(1, 3);
        k.send(0, 0, 1, 77, 8, 8);
        k.receive(1, 1);
        k.send(0, 0, 1, 78, 0, 1);
        for (int n = 0; n < 5; n++) {
            k.send(0, 0, 2, n, 0, 0);
        }
        k.container(0, 0, 0, 0, 3, 3);
        k.file(0, 1, 0, 0);
        k.file(0, 1, 0, 0);
        k.append(0, 2, 5, 20);
        k.append(0, 3, 4, 30);
        k.file(0, 0, 1, 0);
        k.append(0, 4, 8, 40);
        k.container(0, 0, 1, 0, 5, 2);
        k.file(0, 0, 0, 0);
        for (int n = 0; n < 4; n++) {
            k.append(0, 6, 8, 60 + 8 * n);
        }
        k.file(0, 0, 0, 0);
        k.remove(0, 7);
        k.container(0, 1, 0, 0, 0, 0);
        k.file(2, 5, 1, 0);
        k.append(2, 9, 3, 90);
        return k;
    }

    /** All numbers of tags, processes, endpoints and objects are given, though not all of these are there any more. */
    static LabelKernel spent() {
        LabelKernel k = new LabelKernel();
        for (int t = 0; t < 24; t++) {
            k.tag(0, t == 0 ? SECRET : OWN);
        }
        for (int p = 1; p < 24; p++) {
            k.spawn(0, p == 2 ? 1 : 0, 0, 0, 0);
        }
        k.exit(3);
        for (int e = 0; e < 40; e++) {
            k.endpoint(0, 0, 0);
        }
        k.close(0, 3);
        for (int o = 1; o < 60; o++) {
            if (o > 45) {
                k.remove(0, o - 40);
            }
            if (o == 5) {
                k.container(0, 0, 0, 0, 1, 1);
            } else {
                k.file(0, 0, 0, 0);
            }
        }
        return k;
    }

    /** What process 0 sees of all, and process 2 of what is secret; the kernel is spent by it. */
    static List<Integer> seen(LabelKernel k) {
        List<Integer> seen = new ArrayList<>();
        for (int what = 0; what < 7; what++) {
            seen.add(k.count(what));
            seen.add(k.everybody(what % 2));
            for (int p = 0; p < 5; p++) {
                seen.add(k.told(p, what));
                seen.add(k.message(p, what % 3));
            }
            for (int o = 0; o < 10; o++) {
                seen.add(k.object(o == 4 || o == 5 || o == 9 ? 2 : 0, o, what));
            }
            for (int e = 0; e < 5; e++) {
                seen.add(k.port(e, what % 4));
            }
        }
        for (int i = 0; i < 6; i++) {
            seen.add(k.list(0, 0, i));
            seen.add(k.list(0, 1, i));
            seen.add(k.read(0, 2, i));
            seen.add(k.read(0, 3, i));
            seen.add(k.read(2, 9, i));
            seen.add(k.read(2, 4, i + 3));
            seen.add(k.read(0, 6, i + 27));
        }
        for (int n = 0; n < 5; n++) {
            seen.add(k.receive(2, 2));
            seen.add(k.message(2, 0));
        }
        seen.add(k.receive(1, 1));
        seen.add(k.message(1, 0));
        seen.add(k.told(1, 3));
        addNextNumbers(seen, k);
        return seen;
    }

    private static void addNextNumbers(List<Integer> seen, LabelKernel k) {
        seen.add(k.tag(0, OWN));
        seen.add(k.spawn(0, 0, 0, 0, 0));
        seen.add(k.endpoint(0, 0, 0));
        seen.add(k.file(0, 0, 0, 0));
        seen.add(k.remove(0, 2));
        seen.add(k.count(1));
        seen.add(k.count(4));
        seen.add(k.count(5));
    }
}
