/** Promises 9 to 14: endpoints and messages. */
public final class EndpointsTest {
    private static final int UNKNOWN = LabelKernel.UNKNOWN, OUTSIDE = LabelKernel.OUTSIDE;
    private static final int DENIED = LabelKernel.DENIED, FULL = LabelKernel.FULL;
    private static final int SECRET = 0, SEAL = 1, OWN = 2;
    private static final int MIN = Integer.MIN_VALUE, MAX = Integer.MAX_VALUE;

    public static void main(String[] args) {
        promise9();
        promise9Full();
        promise10();
        promise11();
        promise12Refusals();
        promise12Flow();
        promise12Queue();
        promise13();
        promise14();
        Check.end();
    }

    private static void promise9() {
        LabelKernel k = Check.withTags(SECRET, SEAL, OWN);
        k.spawn(0, 1, 0, 4, 0);
        Check.due("9: of none", k.endpoint(2, 8, 0), UNKNOWN);
        Check.due("9: secrets outside", k.endpoint(0, 8, 0), OUTSIDE);
        Check.due("9: seals outside", k.endpoint(0, 0, 8), OUTSIDE);
        Check.due("9: seals -1", k.endpoint(0, 0, -1), OUTSIDE);
        Check.due("9: outside ahead of denied", k.endpoint(1, 0, 8), OUTSIDE);
        Check.due("9: its own label", k.endpoint(1, 1, 0), 0);
        Check.due("9: less secret by what it can't take", k.endpoint(1, 0, 0), DENIED);
        Check.due("9: more secret by what it can't take", k.endpoint(1, 5, 0), DENIED);
        Check.due("9: more sealed by what it can't add", k.endpoint(1, 1, 2), DENIED);
        Check.due("9: more sealed by what it can't take", k.endpoint(1, 1, 4), DENIED);
        Check.due("9: by all of both", k.endpoint(0, 7, 7), 1);
        Check.due("9: two were made", k.count(2), 2);
        Check.due("9: an endpoint changes no label", k.told(0, 0) + k.told(0, 1), 0);
        k.exit(1);
        Check.due("9: of one that ended", k.endpoint(1, 1, 0), UNKNOWN);
        Check.due("9: no number is given twice", k.endpoint(0, 0, 0), 2);
    }

    private static void promise9Full() {
        LabelKernel k = Check.withTags(OWN);
        k.spawn(0, 0, 0, 0, 0);
        for (int e = 0; e < 40; e++) {
            Check.due("9: endpoint " + e, k.endpoint(e % 2, 0, 0), e);
        }
        Check.due("9: endpoint 40", k.endpoint(0, 0, 0), FULL);
        Check.due("9: denied ahead of full", k.endpoint(1, 1, 0), DENIED);
        Check.due("9: outside ahead of full", k.endpoint(1, 2, 0), OUTSIDE);
        Check.due("9: unknown ahead of full", k.endpoint(2, 0, 0), UNKNOWN);
        Check.due("9: 40 are open", k.count(2), 40);
        Check.due("9: half of them are 1's", k.told(1, 5), 20);
        Check.due("9: the last is 1's", k.port(39, 0), 1);
        for (int e = 1; e < 39; e += 2) {
            k.close(1, e);
        }
        k.tag(1, SECRET);
        k.drop(1, 1, 2);
        Check.due("9: the last binds its process", k.label(1, 0, 2), DENIED);
        k.close(1, 39);
        Check.due("9: when it is closed, no more", k.label(1, 0, 2), 0);
        Check.due("9: those that were closed count", k.endpoint(0, 0, 0), FULL);
        Check.due("9: to the last one", k.send(0, 0, 38, 1, 0, 0), 1);
        Check.due("9: it is there", k.port(38, 3), 1);
    }

    private static void promise10() {
        LabelKernel k = Check.withTags(OWN);
        k.spawn(0, 0, 0, 0, 0);
        k.endpoint(0, 0, 0);
        k.endpoint(1, 0, 0);
        Check.due("10: by none", k.close(2, 0), UNKNOWN);
        Check.due("10: none", k.close(0, 2), UNKNOWN);
        Check.due("10: -1", k.close(0, -1), UNKNOWN);
        Check.due("10: 40", k.close(0, 40), UNKNOWN);
        Check.due("10: another one's", k.close(0, 1), DENIED);
        Check.due("10: it is open", k.count(2), 2);
        k.send(0, 0, 1, 1, 0, 0);
        k.send(0, 0, 1, 2, 0, 0);
        k.send(0, 0, 1, 3, 0, 0);
        k.receive(1, 1);
        Check.due("10: two waited", k.close(1, 1), 2);
        Check.due("10: they are not lost", k.count(6), 0);
        Check.due("10: it is no more", k.close(1, 1), UNKNOWN);
        Check.due("10: nor to another", k.close(0, 1), UNKNOWN);
        Check.due("10: nor to receive from", k.receive(1, 1), UNKNOWN);
        Check.due("10: nor to send from", k.send(1, 1, 0, 1, 0, 0), UNKNOWN);
        Check.due("10: none waited", k.close(0, 0), 0);
        Check.due("10: none is open", k.count(2), 0);
    }

    private static void promise11() {
        LabelKernel k = Check.withTags(SECRET, SEAL, OWN);
        k.spawn(0, 0, 0, 4, 5);
        k.endpoint(0, 0, 0);
        k.endpoint(1, 1, 4);
        int[] due = {1, 1, 4, 0};
        for (int what = 0; what < due.length; what++) {
            Check.due("11: port(1, " + what + ")", k.port(1, what), due[what]);
        }
        k.endpoint(1, 5, 0);
        k.send(0, 0, 2, 7, 0, 0);
        Check.due("11: one waits", k.port(2, 3), 1);
        Check.due("11: what -1", k.port(0, -1), OUTSIDE);
        Check.due("11: what 4", k.port(0, 4), OUTSIDE);
        Check.due("11: none", k.port(3, 0), UNKNOWN);
        Check.due("11: none, nothing", k.port(3, 4), UNKNOWN);
        Check.due("11: -1", k.port(-1, 0), UNKNOWN);
        Check.due("11: 40", k.port(40, 0), UNKNOWN);
        Check.due("11: MAX", k.port(MAX, 0), UNKNOWN);
        k.close(1, 1);
        Check.due("11: a closed one", k.port(1, 0), UNKNOWN);
    }

    private static void promise12Refusals() {
        LabelKernel k = Check.withTags(OWN, OWN, SECRET, SEAL);
        k.spawn(0, 0, 0, 1, 2);
        k.endpoint(0, 0, 0);
        k.endpoint(1, 0, 0);
        Check.due("12: by none", k.send(2, 0, 1, 5, 0, 0), UNKNOWN);
        Check.due("12: from none", k.send(0, 2, 1, 5, 0, 0), UNKNOWN);
        Check.due("12: from none, to 40", k.send(0, 2, 40, 5, 0, 0), UNKNOWN);
        Check.due("12: to 40", k.send(0, 0, 40, 5, 0, 0), OUTSIDE);
        Check.due("12: to -1", k.send(0, 0, -1, 5, 0, 0), OUTSIDE);
        Check.due("12: plus outside", k.send(0, 0, 1, 5, 16, 0), OUTSIDE);
        Check.due("12: minus outside", k.send(0, 0, 1, 5, 0, MIN), OUTSIDE);
        Check.due("12: outside ahead of denied", k.send(0, 1, 1, 5, 16, 0), OUTSIDE);
        Check.due("12: from another one's", k.send(0, 1, 0, 5, 0, 0), DENIED);
        Check.due("12: a plus it does not own", k.send(1, 1, 0, 5, 2, 0), DENIED);
        Check.due("12: a minus it does not own", k.send(1, 1, 0, 5, 0, 1), DENIED);
        Check.due("12: everybody's plus", k.send(1, 1, 0, 5, 4, 0), DENIED);
        Check.due("12: everybody's minus", k.send(1, 1, 0, 5, 0, 8), DENIED);
        Check.due("12: denied where none is, too", k.send(1, 1, 39, 5, 2, 0), DENIED);
        Check.due("12: nothing was lost", k.count(6), 0);
        Check.due("12: nothing came", k.port(0, 3) + k.port(1, 3), 0);
        Check.due("12: what it owns", k.send(1, 1, 0, 5, 1, 2), 1);
        Check.due("12: the sender keeps it", k.told(1, 2) * 16 + k.told(1, 3), 18);
        Check.due("12: the receiver must take it first", k.message(0, 0), 0);
        Check.due("12: to none", k.send(0, 0, 39, 5, 0, 0), 1);
        Check.due("12: is lost", k.count(6), 1);
    }

    private static void promise12Flow() {
        LabelKernel k = Check.withTags(OWN, OWN);
        int[][] labels = {{0, 0}, {1, 0}, {3, 0}, {2, 0}, {0, 1}, {0, 3}, {1, 1}};
        for (int[] label : labels) {
            k.endpoint(0, label[0], label[1]);
        }
        int lost = 0;
        for (int e = 0; e < labels.length; e++) {
            for (int f = 0; f < labels.length; f++) {
                int before = k.port(f, 3);
                boolean flows = (labels[e][0] | labels[f][0]) == labels[f][0]
                    && (labels[e][1] | labels[f][1]) == labels[e][1];
                boolean comes = flows && before < 4;
                Check.due("12: from " + e + " to " + f, k.send(0, e, f, e, 0, 0), 1);
                Check.due("12: waiting at " + f, k.port(f, 3), comes ? before + 1 : before);
                lost += comes ? 0 : 1;
                Check.due("12: lost", k.count(6), lost);
            }
        }
        Check.due("12: labels do not change", k.told(0, 0) + k.told(0, 1), 0);
        LabelKernel j = Check.withTags(SECRET);
        j.spawn(0, 1, 0, 0, 1);
        j.endpoint(0, 0, 0);
        j.endpoint(1, 0, 0);
        j.send(1, 1, 0, 5, 0, 0);
        Check.due("12: the endpoint's label counts, not the sender's", j.port(0, 3), 1);
        j.endpoint(1, 1, 0);
        j.send(1, 2, 0, 6, 0, 0);
        Check.due("12: of this endpoint alone", j.port(0, 3), 1);
    }

    private static void promise12Queue() {
        LabelKernel k = Check.withTags();
        k.spawn(0, 0, 0, 0, 0);
        k.endpoint(0, 0, 0);
        k.endpoint(1, 0, 0);
        for (int n = 1; n <= 6; n++) {
            Check.due("12: message " + n, k.send(0, 0, 1, n, 0, 0), 1);
            Check.due("12: waiting", k.port(1, 3), Math.min(n, 4));
        }
        Check.due("12: the fifth and sixth are lost", k.count(6), 2);
        k.receive(1, 1);
        k.send(0, 0, 1, 7, 0, 0);
        for (int value : new int[] {2, 3, 4, 7}) {
            Check.due("12: receive", k.receive(1, 1), 1);
            Check.due("12: in its order", k.message(1, 0), value);
        }
        Check.due("12: none is left", k.receive(1, 1), 0);
        Check.due("12: to itself", k.send(0, 0, 0, MIN, 0, 0), 1);
        Check.due("12: comes as well", k.port(0, 3), 1);
        k.close(1, 1);
        Check.due("12: to one that was closed", k.send(0, 0, 1, 8, 0, 0), 1);
        Check.due("12: is lost", k.count(6), 3);
    }

    private static void promise13() {
        LabelKernel k = Check.withTags(OWN, OWN, OWN);
        k.spawn(0, 0, 0, 1, 0);
        k.endpoint(0, 0, 0);
        k.endpoint(1, 0, 0);
        k.endpoint(1, 0, 0);
        Check.due("13: by none", k.receive(2, 0), UNKNOWN);
        Check.due("13: from none", k.receive(1, 3), UNKNOWN);
        Check.due("13: from -1", k.receive(1, -1), UNKNOWN);
        Check.due("13: from another one's", k.receive(1, 0), DENIED);
        Check.due("13: from an empty one", k.receive(1, 1), 0);
        k.send(0, 0, 1, 5, 2, 4);
        k.send(0, 0, 1, 6, 1, 1);
        Check.due("13: another one's, with messages", k.receive(0, 1), DENIED);
        Check.due("13: it owns nothing new yet", k.told(1, 2) * 8 + k.told(1, 3), 8);
        Check.due("13: its other one is empty", k.receive(1, 2), 0);
        Check.due("13: the first", k.receive(1, 1), 1);
        Check.due("13: one is left", k.port(1, 3), 1);
        Check.due("13: plus is added", k.told(1, 2), 3);
        Check.due("13: minus is added", k.told(1, 3), 4);
        Check.due("13: the second", k.receive(1, 1), 1);
        Check.due("13: plus stays", k.told(1, 2), 3);
        Check.due("13: minus has both", k.told(1, 3), 5);
        Check.due("13: none is left", k.receive(1, 1), 0);
        k.send(0, 0, 1, 7, 4, 0);
        k.send(0, 0, 1, 8, 2, 1);
        k.send(0, 0, 1, 9, 1, 6);
        int[][] due = {{7, 4, 0}, {8, 2, 1}, {9, 1, 6}};
        for (int[] message : due) {
            k.receive(1, 1);
            for (int what = 0; what < 3; what++) {
                Check.due("13: in its place is " + message[0], k.message(1, what), message[what]);
            }
        }
        Check.due("13: what it owns it can use", k.label(1, 1, 4), 0);
        Check.due("13: and put back", k.label(1, 1, 0), 4);
        Check.due("13: and hand on", k.spawn(1, 0, 0, 2, 4), 2);
    }

    private static void promise14() {
        LabelKernel k = Check.withTags(OWN, OWN);
        k.spawn(0, 0, 0, 0, 0);
        k.endpoint(0, 0, 0);
        k.endpoint(1, 0, 0);
        for (int what = 0; what < 3; what++) {
            Check.due("14: before one", k.message(1, what), 0);
        }
        k.send(0, 0, 1, UNKNOWN, 1, 2);
        k.send(0, 0, 1, MAX, 0, 0);
        Check.due("14: one that is not taken", k.message(1, 0), 0);
        k.receive(1, 1);
        int[] due = {UNKNOWN, 1, 2};
        for (int what = 0; what < 3; what++) {
            Check.due("14: message(1, " + what + ")", k.message(1, what), due[what]);
        }
        Check.due("14: what -1", k.message(1, -1), OUTSIDE);
        Check.due("14: what 3", k.message(1, 3), OUTSIDE);
        Check.due("14: of none", k.message(2, 0), UNKNOWN);
        Check.due("14: of none, nothing", k.message(2, 3), UNKNOWN);
        Check.due("14: of another", k.message(0, 0), 0);
        k.drop(1, 0, 1);
        Check.due("14: the message is what it was", k.message(1, 1), 1);
        k.receive(1, 1);
        Check.due("14: the latest number", k.message(1, 0), MAX);
        Check.due("14: the latest plus", k.message(1, 1), 0);
        Check.due("14: the latest minus", k.message(1, 2), 0);
        k.receive(1, 1);
        Check.due("14: an empty queue changes nothing", k.message(1, 0), MAX);
        k.close(1, 1);
        Check.due("14: nor does a closed endpoint", k.message(1, 0), MAX);
        k.spawn(1, 0, 0, 0, 0);
        Check.due("14: a child has taken none", k.message(2, 0), 0);
        k.exit(1);
        Check.due("14: of one that ended", k.message(1, 0), UNKNOWN);
    }
}
