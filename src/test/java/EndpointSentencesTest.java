/** Each sentence of section 2 and of promises 9 to 14 that names a boundary. */
public final class EndpointSentencesTest {
    private static final int UNKNOWN = LabelKernel.UNKNOWN, OUTSIDE = LabelKernel.OUTSIDE;
    private static final int DENIED = LabelKernel.DENIED, FULL = LabelKernel.FULL, CRASHED = LabelKernel.CRASHED;
    private static final int SECRET = Check.SECRET, SEAL = Check.SEAL, OWN = Check.OWN;
    private static final int MIN = Check.MIN, MAX = Check.MAX;

    public static void main(String[] args) {
        endpointsThatThereAreNot();
        endpointsThatWereClosed();
        atMost40Endpoints();
        atMost40WhereAllAreClosed();
        differsInBothAloneWhenMade();
        differsByEverybodysWhenMade();
        askedAgainWhenTheLabelChanges();
        askedAgainOfAllItsEndpoints();
        askedAgainByWhatWouldBeThen();
        askedAgainWhenItOwnsLess();
        queueOfUpTo4();
        twoSetsThatTheReceiverComesToOwn();
        behindTheOthers();
        lostWhereItDoesNotFlow();
        lostWhereNoneIsOpen();
        lostWhereTheQueueHasNoRoom();
        theAnswerIsTheSame();
        flowsFromEqualToEqual();
        closeHowManyMessages();
        closeAnotherOnes();
        portOfOneThatIsOpen();
        sendFrom0To39();
        sendWhatItOwns();
        sendAnyNumber();
        receiveWhereThereIsNone();
        receiveFromAnotherOnes();
        messageBeforeOne();
        messageOfTheLatest();
        messageAsARefusal();
        Check.end();
    }

    private static void dueOfEndpoint(LabelKernel k, int p, int e, int due) {
        Check.due("close of " + e, k.close(p, e), due);
        for (int what = 0; what < 4; what++) {
            Check.due("port of " + e, k.port(e, what), due);
        }
        Check.due("send from " + e, k.send(p, e, 0, 0, 0, 0), due);
        Check.due("receive from " + e, k.receive(p, e), due);
    }

    private static void endpointsThatThereAreNot() {
        Check.sentence("UNKNOWN (a PROCESS, TAG, ENDPOINT, OBJECT that there is not");
        for (int e : new int[] {-1, 1, 2, 38, 39, 40, 41, MIN, MAX}) {
            LabelKernel k = new LabelKernel();
            Check.due("an endpoint", k.endpoint(0, 0, 0), 0);
            dueOfEndpoint(k, 0, e, UNKNOWN);
            Check.due("none is lost", k.count(6), 0);
            Check.due("one is open", k.count(2), 1);
        }
        dueOfEndpoint(new LabelKernel(), 0, 0, UNKNOWN);
    }

    private static void endpointsThatWereClosed() {
        Check.sentence("or is no more)");
        LabelKernel k = new LabelKernel();
        k.spawn(0, 0, 0, 0, 0);
        k.endpoint(0, 0, 0);
        k.endpoint(1, 0, 0);
        k.endpoint(1, 0, 0);
        k.send(0, 0, 1, 5, 0, 0);
        Check.due("closed", k.close(1, 1), 1);
        dueOfEndpoint(k, 1, 1, UNKNOWN);
        dueOfEndpoint(k, 0, 1, UNKNOWN);
        k.exit(1);
        dueOfEndpoint(k, 1, 2, UNKNOWN);
        dueOfEndpoint(k, 0, 2, UNKNOWN);
        k.crash(0);
        Check.due("a crash", k.file(0, 0, 0, 0), CRASHED);
        dueOfEndpoint(k, 0, 0, UNKNOWN);
    }

    private static void atMost40Endpoints() {
        Check.sentence("ENDPOINTS (40 in all, those that were closed, too)");
        LabelKernel k = new LabelKernel();
        k.spawn(0, 0, 0, 0, 0);
        for (int e = 0; e < 40; e++) {
            Check.due("endpoint " + e, k.endpoint(e % 2, 0, 0), e);
        }
        Check.due("a 41st", k.endpoint(0, 0, 0), FULL);
        Check.due("a 41st of another one", k.endpoint(1, 0, 0), FULL);
        Check.due("40 are open", k.count(2), 40);
        Check.due("the last has room", k.send(0, 0, 39, 5, 0, 0), 1);
        Check.due("it came", k.receive(1, 39), 1);
        k.close(1, 39);
        Check.due("none in the place of the last", k.endpoint(0, 0, 0), FULL);
        k.close(0, 0);
        Check.due("nor of the first", k.endpoint(0, 0, 0), FULL);
        k.exit(1);
        Check.due("nor of those of one that ended", k.endpoint(0, 0, 0), FULL);
        Check.due("19 are open", k.count(2), 19);
    }

    private static void atMost40WhereAllAreClosed() {
        Check.sentence("ENDPOINTS (40 in all, those that were closed, too)");
        LabelKernel k = new LabelKernel();
        for (int e = 0; e < 40; e++) {
            Check.due("endpoint " + e, k.endpoint(0, 0, 0), e);
            Check.due("is closed", k.close(0, e), 0);
        }
        Check.due("none is open", k.count(2), 0);
        Check.due("a 41st", k.endpoint(0, 0, 0), FULL);
        k.crash(0);
        k.file(0, 0, 0, 0);
        Check.due("a 41st behind a crash", k.endpoint(0, 0, 0), FULL);
    }

    /** Process 1 owns none of the first tag, 2 in PLUS, 4 in MINUS, 8 in both. */
    private static LabelKernel withProcess(int secrets, int seals) {
        LabelKernel k = Check.withTags(OWN, OWN, OWN, OWN);
        k.spawn(0, secrets, seals, 10, 12);
        return k;
    }

    private static void differsInBothAloneWhenMade() {
        Check.sentence("each of its SETS differs from that of the PROCESS in TAGS of BOTH alone (asked when it is made");
        for (int label = 0; label < 16; label++) {
            LabelKernel k = withProcess(label, label ^ 5);
            int made = 0;
            for (int set = 0; set < 16; set++) {
                boolean secretsFit = (set ^ label | 8) == 8;
                boolean sealsFit = (set ^ label ^ 5 | 8) == 8;
                String name = "label " + label + ", endpoint " + set;
                Check.due(name + " for secrets", k.endpoint(1, set, label ^ 5), secretsFit ? made : DENIED);
                made += secretsFit ? 1 : 0;
                Check.due(name + " for seals", k.endpoint(1, label, set), sealsFit ? made : DENIED);
                made += sealsFit ? 1 : 0;
            }
            Check.due("made", k.count(2), made);
            Check.due("four were made", made, 4);
        }
    }

    private static void differsByEverybodysWhenMade() {
        Check.sentence("BOTH: what is in both of these.");
        LabelKernel k = Check.withTags(SECRET, SEAL);
        k.spawn(0, 0, 0, 0, 1);
        k.spawn(0, 0, 0, 2, 0);
        k.spawn(0, 0, 0, 0, 0);
        Check.due("0, secret", k.endpoint(0, 1, 0), 0);
        Check.due("0, sealed", k.endpoint(0, 0, 2), 1);
        Check.due("0, by all", k.endpoint(0, 3, 3), 2);
        Check.due("who takes the secret", k.endpoint(1, 1, 1), 3);
        Check.due("but not the seal", k.endpoint(1, 0, 2), DENIED);
        Check.due("who adds the seal", k.endpoint(2, 2, 2), 4);
        Check.due("but can't take the secret", k.endpoint(2, 1, 0), DENIED);
        Check.due("who owns nothing: a secret", k.endpoint(3, 1, 0), DENIED);
        Check.due("who owns nothing: a seal", k.endpoint(3, 0, 2), DENIED);
        Check.due("who owns nothing: its own label", k.endpoint(3, 0, 0), 5);
    }

    private static void askedAgainWhenTheLabelChanges() {
        Check.sentence("and again for all of its ENDPOINTS, by what would be then, whenever its LABEL, or what it OWNS, would change: DENIED, if it would not be so)");
        for (int what = 0; what < 2; what++) {
            LabelKernel k = withProcess(4, 4);
            Check.due("an endpoint", k.endpoint(1, 4, 4), 0);
            Check.due("away from it by PLUS alone", k.label(1, what, 6), DENIED);
            Check.due("away from it by MINUS alone", k.label(1, what, 0), DENIED);
            Check.due("away from it by one of BOTH", k.label(1, what, 12), 4);
            Check.due("and back", k.label(1, what, 4), 12);
            Check.due("by one of BOTH, and another one", k.label(1, what, 14), DENIED);
            Check.due("nowhere", k.label(1, what, 4), 4);
            Check.due("it is where it was", k.told(1, what), 4);
            k.close(1, 0);
            Check.due("when it is closed", k.label(1, what, 6), 4);
            Check.due("and down", k.label(1, what, 2), 6);
            Check.due("it is there", k.told(1, what), 2);
        }
    }

    private static void askedAgainOfAllItsEndpoints() {
        Check.sentence("and again for all of its ENDPOINTS");
        LabelKernel k = withProcess(0, 0);
        for (int e = 0; e < 40; e++) {
            k.endpoint(e == 0 || e == 20 || e == 39 ? 1 : 0, 0, 0);
        }
        Check.due("three", k.label(1, 0, 2), DENIED);
        Check.due("another one's bind only that one", k.label(0, 0, 15), 0);
        k.close(1, 0);
        k.close(1, 20);
        Check.due("the last of all", k.label(1, 0, 2), DENIED);
        Check.due("the last of all, and seals", k.label(1, 1, 2), DENIED);
        k.close(1, 39);
        Check.due("none", k.label(1, 0, 2), 0);
        LabelKernel j = withProcess(0, 0);
        j.endpoint(1, 0, 0);
        j.endpoint(1, 8, 0);
        j.endpoint(1, 0, 8);
        j.close(1, 1);
        j.close(1, 2);
        Check.due("the first", j.label(1, 0, 2), DENIED);
        j.close(1, 0);
        Check.due("none of three", j.label(1, 0, 2), 0);
    }

    private static void askedAgainByWhatWouldBeThen() {
        Check.sentence("by what would be then");
        LabelKernel k = withProcess(0, 0);
        Check.due("an endpoint more secret than its process", k.endpoint(1, 8, 0), 0);
        Check.due("minus that it needs", k.drop(1, 1, 8), DENIED);
        Check.due("plus that it needs", k.drop(1, 0, 8), DENIED);
        Check.due("the process gets as secret", k.label(1, 0, 8), 0);
        Check.due("plus that it does not need then", k.drop(1, 0, 8), 2);
        Check.due("but then it can't go away", k.label(1, 0, 0), DENIED);
        Check.due("minus that it does not need", k.drop(1, 1, 8), 4);
        Check.due("one that it does need never", k.drop(1, 1, 4), 0);
        LabelKernel j = Check.withTags(SECRET, SEAL);
        Check.due("an endpoint, secret and sealed", j.endpoint(0, 1, 2), 0);
        Check.due("everybody's plus stays", j.drop(0, 0, 1), 2);
        Check.due("everybody's minus stays", j.drop(0, 1, 2), 1);
        Check.due("its own plus of the seal would not", j.drop(0, 0, 2), DENIED);
        Check.due("its own minus of the secret would not", j.drop(0, 1, 1), DENIED);
        LabelKernel i = withProcess(0, 0);
        i.endpoint(0, 0, 0);
        i.endpoint(1, 0, 0);
        i.send(0, 0, 1, 5, 0, 2);
        Check.due("2 can't be taken yet", i.label(1, 0, 2), DENIED);
        i.receive(1, 1);
        Check.due("by what it owns now it can", i.label(1, 0, 2), 0);
        Check.due("away from an endpoint by what it came to own", i.told(1, 0), 2);
        Check.due("and then not drop it", i.drop(1, 1, 2), DENIED);
    }

    private static void askedAgainWhenItOwnsLess() {
        Check.sentence("or what it OWNS, would change: DENIED, if it would not be so)");
        for (int what = 0; what < 2; what++) {
            LabelKernel k = withProcess(0, 0);
            k.endpoint(1, 0, 0);
            k.endpoint(1, 0, 8);
            k.endpoint(0, 0, 2);
            int own = what == 0 ? 10 : 12;
            Check.due("what its seals need", k.drop(1, what, 8), DENIED);
            Check.due("that, and what none needs", k.drop(1, what, 15), DENIED);
            Check.due("it owns it", k.told(1, 2 + what), own);
            Check.due("what none needs", k.drop(1, what, 7), 8);
            Check.due("another one's need is its own", k.drop(1, what, 2), 8);
            Check.due("another one's need", k.drop(0, what, 2), DENIED);
            k.close(1, 0);
            Check.due("where the one that needs it is open", k.drop(1, what, 8), DENIED);
            k.close(1, 1);
            Check.due("where it is closed", k.drop(1, what, 8), 0);
        }
    }

    private static LabelKernel twoWithEndpoints() {
        LabelKernel k = Check.withTags(OWN, OWN, SECRET, SEAL);
        k.spawn(0, 0, 0, 0, 0);
        k.endpoint(0, 0, 0);
        k.endpoint(1, 0, 0);
        return k;
    }

    private static void queueOfUpTo4() {
        Check.sentence("Each has a QUEUE of up to 4 MESSAGES");
        LabelKernel k = twoWithEndpoints();
        for (int n = 0; n < 4; n++) {
            Check.due("in its queue", k.port(1, 3), n);
            k.send(0, 0, 1, n, 0, 0);
            Check.due("lost", k.count(6), 0);
        }
        k.send(0, 0, 1, 4, 0, 0);
        Check.due("a fifth is lost", k.count(6), 1);
        Check.due("four", k.port(1, 3), 4);
        for (int n = 0; n < 4; n++) {
            Check.due("received", k.receive(1, 1), 1);
            Check.due("number", k.message(1, 0), n);
            Check.due("left", k.port(1, 3), 3 - n);
        }
        Check.due("none is left", k.receive(1, 1), 0);
        k.endpoint(1, 0, 0);
        for (int n = 0; n < 4; n++) {
            k.send(0, 0, 1, n, 0, 0);
            k.send(0, 0, 2, n, 0, 0);
        }
        Check.due("each has its own queue", k.count(6), 1);
    }

    private static void twoSetsThatTheReceiverComesToOwn() {
        Check.sentence("a number, and two SETS, which the receiver comes to OWN.");
        for (int plus = 0; plus < 4; plus++) {
            for (int minus = 0; minus < 4; minus++) {
                LabelKernel k = Check.withTags(OWN, OWN);
                k.spawn(0, 0, 0, 1, 2);
                k.endpoint(0, 0, 0);
                k.endpoint(1, 0, 0);
                k.send(0, 0, 1, 5, plus, minus);
                Check.dueFromZero("before it is taken", what -> k.told(1, what), 0, 0, 1, 2);
                Check.due("taken", k.receive(1, 1), 1);
                Check.dueFromZero("by what is in it", what -> k.told(1, what), 0, 0, 1 | plus, 2 | minus);
                Check.dueFromZero("the sender's", what -> k.told(0, what), 0, 0, 3, 3);
            }
        }
        LabelKernel k = twoWithEndpoints();
        k.send(0, 0, 1, 5, 3, 3);
        k.drop(0, 0, 3);
        k.drop(0, 1, 3);
        Check.due("of a sender that does not own it any more", k.receive(1, 1), 1);
        Check.dueFromZero("the receiver's", what -> k.told(1, what), 0, 0, 3, 3, 0, 1, 3);
        LabelKernel j = twoWithEndpoints();
        j.spawn(0, 0, 0, 3, 3);
        j.endpoint(2, 0, 0);
        j.send(2, 2, 1, 6, 1, 2);
        j.exit(2);
        Check.due("of a sender that ended", j.receive(1, 1), 1);
        Check.dueFromZero("the receiver's", what -> j.told(1, what), 0, 0, 1, 2);
        Check.due("its number", j.message(1, 0), 6);
    }

    private static void behindTheOthers() {
        Check.sentence("A MESSAGE from an ENDPOINT to another one is put behind the others in its QUEUE");
        LabelKernel k = twoWithEndpoints();
        k.spawn(0, 0, 0, 0, 0);
        k.endpoint(2, 0, 0);
        int sent = 0;
        int taken = 0;
        for (int round = 0; round < 20; round++) {
            for (int n = 0; n < 1 + round % 3 && sent - taken < 4; n++) {
                k.send(sent % 2 * 2, sent % 2 * 2, 1, 1000 + sent, 0, 0);
                sent++;
            }
            Check.due("waiting", k.port(1, 3), sent - taken);
            Check.due("the first", k.receive(1, 1), 1);
            Check.due("its number", k.message(1, 0), 1000 + taken);
            taken++;
        }
        Check.due("none is lost", k.count(6), 0);
    }

    private static void lostWhereItDoesNotFlow() {
        Check.sentence("if the LABEL of the first FLOWS TO that of the second");
        for (int from = 0; from < 16; from++) {
            LabelKernel k = Check.withTags(OWN, OWN);
            k.endpoint(0, from & 3, from >> 2);
            int lost = 0;
            for (int to = 0; to < 16; to++) {
                Check.due("an endpoint", k.endpoint(0, to & 3, to >> 2), to + 1);
                boolean flows = (from & 3 & ~to) == 0 && (to >> 2 & ~(from >> 2)) == 0;
                lost += flows ? 0 : 1;
                Check.due("the answer", k.send(0, 0, to + 1, to, 0, 0), 1);
                Check.due("from " + from + " to " + to, k.port(to + 1, 3), flows ? 1 : 0);
                Check.due("lost", k.count(6), lost);
            }
        }
    }

    private static void lostWhereNoneIsOpen() {
        Check.sentence("this is open");
        LabelKernel k = twoWithEndpoints();
        k.endpoint(1, 0, 0);
        Check.due("never made", k.send(0, 0, 3, 5, 0, 0), 1);
        Check.due("lost", k.count(6), 1);
        Check.due("made next", k.endpoint(1, 0, 0), 3);
        Check.due("its queue is empty", k.port(3, 3), 0);
        k.close(1, 1);
        Check.due("closed", k.send(0, 0, 1, 5, 0, 0), 1);
        Check.due("lost", k.count(6), 2);
        k.exit(1);
        Check.due("of one that ended", k.send(0, 0, 2, 5, 0, 0), 1);
        Check.due("lost", k.count(6), 3);
        Check.due("the last that can be", k.send(0, 0, 39, 5, 0, 0), 1);
        Check.due("lost", k.count(6), 4);
        k.crash(0);
        k.file(0, 0, 0, 0);
        Check.due("another endpoint", k.endpoint(0, 0, 0), 4);
        Check.due("closed by a crash", k.send(0, 4, 0, 5, 0, 0), 1);
        Check.due("lost", k.count(6), 5);
    }

    private static void lostWhereTheQueueHasNoRoom() {
        Check.sentence("and its QUEUE has room; else it is lost.");
        LabelKernel k = twoWithEndpoints();
        for (int n = 0; n < 7; n++) {
            k.send(0, 0, 1, n, 1, 0);
        }
        Check.due("three are lost", k.count(6), 3);
        k.receive(1, 1);
        k.send(0, 0, 1, 7, 0, 0);
        Check.due("one has room", k.count(6), 3);
        k.send(0, 0, 1, 8, 0, 2);
        Check.due("the next has not", k.count(6), 4);
        for (int number : new int[] {1, 2, 3, 7}) {
            k.receive(1, 1);
            Check.due("what came", k.message(1, 0), number);
        }
        Check.due("no more", k.receive(1, 1), 0);
        Check.due("a lost one's set is not owned", k.told(1, 3), 0);
    }

    private static void theAnswerIsTheSame() {
        Check.sentence("The answer is the same.");
        LabelKernel k = twoWithEndpoints();
        k.endpoint(0, 1, 0);
        k.endpoint(0, 0, 1);
        for (int n = 0; n < 6; n++) {
            Check.due("with room, or without", k.send(0, 0, 1, n, 0, 0), 1);
        }
        Check.due("where secrets do not flow", k.send(0, 2, 0, 0, 0, 0), 1);
        Check.due("where seals do not flow", k.send(0, 0, 3, 0, 0, 0), 1);
        Check.due("where there is none", k.send(0, 0, 30, 0, 0, 0), 1);
        k.close(1, 1);
        Check.due("where it is closed", k.send(0, 0, 1, 0, 0, 0), 1);
        Check.due("all were lost but four", k.count(6), 6);
    }

    private static void flowsFromEqualToEqual() {
        Check.sentence("LABEL a FLOWS TO b, if the SECRETS of a are all in those of b, and the SEALS of b all in those of a.");
        LabelKernel k = Check.withTags(OWN, OWN, OWN);
        k.endpoint(0, 7, 5);
        k.endpoint(0, 7, 5);
        k.send(0, 0, 1, 5, 0, 0);
        Check.due("the same label", k.port(1, 3), 1);
        k.endpoint(0, 7, 7);
        k.send(0, 1, 2, 5, 0, 0);
        Check.due("one seal more", k.port(2, 3), 0);
        k.send(0, 2, 1, 5, 0, 0);
        Check.due("one seal less", k.port(1, 3), 2);
        k.endpoint(0, 3, 5);
        k.send(0, 1, 3, 5, 0, 0);
        Check.due("one secret less", k.port(3, 3), 0);
        k.send(0, 3, 1, 5, 0, 0);
        Check.due("one secret more", k.port(1, 3), 3);
        k.endpoint(0, 7, 3);
        k.send(0, 1, 4, 5, 0, 0);
        Check.due("another seal instead", k.port(4, 3), 0);
        k.endpoint(0, 0, 7);
        k.endpoint(0, 7, 0);
        k.send(0, 5, 6, 5, 0, 0);
        Check.due("from all sealed to all secret", k.port(6, 3), 1);
        k.send(0, 6, 5, 5, 0, 0);
        Check.due("and not back", k.port(5, 3), 0);
    }

    private static void closeHowManyMessages() {
        Check.sentence("ENDPOINT e is closed by PROCESS p: how many MESSAGES were in its QUEUE.");
        for (int n = 0; n <= 5; n++) {
            LabelKernel k = twoWithEndpoints();
            for (int m = 0; m < n; m++) {
                k.send(0, 0, 1, m, 0, 0);
            }
            Check.due("with " + n, k.close(1, 1), Math.min(n, 4));
            Check.due("once more", k.close(1, 1), UNKNOWN);
            Check.due("open", k.count(2), 1);
        }
        LabelKernel k = twoWithEndpoints();
        k.send(0, 0, 1, 1, 0, 0);
        k.receive(1, 1);
        Check.due("what was taken does not count", k.close(1, 1), 0);
    }

    private static void closeAnotherOnes() {
        Check.sentence("UNKNOWN; DENIED: it is another one's.");
        LabelKernel k = twoWithEndpoints();
        k.spawn(1, 0, 0, 0, 0);
        Check.due("by its owner's parent", k.close(0, 1), DENIED);
        Check.due("by its owner's child", k.close(2, 1), DENIED);
        Check.due("0's by another one", k.close(1, 0), DENIED);
        Check.due("both are open", k.count(2), 2);
        Check.due("by its owner", k.close(1, 1), 0);
        Check.due("then it is unknown to others, too", k.close(0, 1), UNKNOWN);
        Check.due("0's by 0", k.close(0, 0), 0);
    }

    private static void portOfOneThatIsOpen() {
        Check.sentence("Of an ENDPOINT that is open: what = 0 its PROCESS, 1 its SECRETS, 2 its SEALS, 3 MESSAGES in its QUEUE. UNKNOWN, OUTSIDE.");
        LabelKernel k = Check.withTags(OWN, OWN, OWN);
        k.spawn(0, 0, 0, 7, 7);
        k.endpoint(0, 4, 1);
        k.endpoint(1, 6, 1);
        k.send(0, 0, 1, 5, 0, 0);
        Check.dueFromZero("port of 0", what -> k.port(0, what), 0, 4, 1, 0, OUTSIDE);
        Check.dueFromZero("port of 1", what -> k.port(1, what), 1, 6, 1, 1, OUTSIDE);
        Check.dueForEach("port of 1", OUTSIDE, what -> k.port(1, what), -1, 4, 5, MIN, MAX);
        k.label(1, 0, 7);
        Check.due("its label is its own", k.port(1, 1), 6);
    }

    private static void sendFrom0To39() {
        Check.sentence("to an ENDPOINT f (0 to 39: there may be none, or none any more): 1.");
        LabelKernel k = twoWithEndpoints();
        k.close(1, 1);
        for (int f = 1; f < 40; f++) {
            Check.due("to " + f, k.send(0, 0, f, 5, 0, 0), 1);
        }
        Check.due("all are lost", k.count(6), 39);
        Check.dueForEach("to", OUTSIDE, f -> k.send(0, 0, f, 5, 0, 0), -1, -2, 40, 41, 64, MIN, MAX);
        Check.due("none is lost by these", k.count(6), 39);
        Check.due("to 0", k.send(0, 0, 0, 5, 0, 0), 1);
        Check.due("outside ahead of denied", k.send(0, 0, 40, 5, 4, 0), OUTSIDE);
    }

    private static void sendWhatItOwns() {
        Check.sentence("DENIED: e is another one's; p does not OWN all of the SETS.");
        for (int set = 0; set < 16; set++) {
            LabelKernel k = Check.withTags(OWN, OWN, SECRET, SEAL);
            k.spawn(0, 0, 0, 1, 2);
            k.endpoint(1, 0, 0);
            k.endpoint(0, 0, 0);
            Check.due("plus " + set + " of 1", k.send(1, 0, 1, 5, set, 0), (set & ~1) == 0 ? 1 : DENIED);
            Check.due("minus " + set + " of 1", k.send(1, 0, 1, 5, 0, set), (set & ~2) == 0 ? 1 : DENIED);
            Check.due("plus " + set + " of 0", k.send(0, 1, 0, 5, set, 0), (set & ~11) == 0 ? 1 : DENIED);
            Check.due("minus " + set + " of 0", k.send(0, 1, 0, 5, 0, set), (set & ~7) == 0 ? 1 : DENIED);
            Check.due("from another one's", k.send(1, 1, 0, 5, 0, 0), DENIED);
            Check.due("from another one's, to none", k.send(0, 0, 39, 5, set, 0), DENIED);
            Check.due("what is refused is not lost", k.count(6), 0);
        }
    }

    private static void sendAnyNumber() {
        Check.sentence("PROCESS p sends a number and two SETS from its ENDPOINT e");
        LabelKernel k = twoWithEndpoints();
        for (int number : new int[] {0, 1, -1, MIN, MAX, UNKNOWN, OUTSIDE, DENIED, FULL, CRASHED}) {
            Check.due("send of " + number, k.send(0, 0, 1, number, 0, 0), 1);
            Check.due("receive of " + number, k.receive(1, 1), 1);
            Check.due("message", k.message(1, 0), number);
        }
    }

    private static void receiveWhereThereIsNone() {
        Check.sentence("PROCESS p takes the first MESSAGE from its ENDPOINT e: 1; 0: there is none.");
        LabelKernel k = twoWithEndpoints();
        k.endpoint(1, 0, 0);
        Check.due("empty at first", k.receive(1, 1), 0);
        k.send(0, 0, 2, 6, 1, 1);
        Check.due("another one of its own is empty", k.receive(1, 1), 0);
        Check.due("it has taken none", k.message(1, 0), 0);
        Check.due("this one is not", k.receive(1, 2), 1);
        Check.due("now it is", k.receive(1, 2), 0);
        Check.due("what it took before stays", k.message(1, 0), 6);
        Check.due("it owns what it took", k.told(1, 2), 1);
    }

    private static void receiveFromAnotherOnes() {
        Check.sentence("UNKNOWN; DENIED: e is another one's.");
        LabelKernel k = twoWithEndpoints();
        k.spawn(1, 0, 0, 0, 0);
        k.send(0, 0, 1, 6, 1, 1);
        Check.due("by its owner's parent", k.receive(0, 1), DENIED);
        Check.due("by its owner's child", k.receive(2, 1), DENIED);
        Check.due("an empty one", k.receive(1, 0), DENIED);
        Check.due("it is there", k.port(1, 3), 1);
        Check.due("the child owns nothing", k.told(2, 2), 0);
        Check.due("by its owner", k.receive(1, 1), 1);
    }

    private static void messageBeforeOne() {
        Check.sentence("what = 0 its number, 1 its PLUS, 2 its MINUS; 0 before one. UNKNOWN, OUTSIDE.");
        LabelKernel k = twoWithEndpoints();
        Check.dueFromZero("before one", what -> k.message(1, what), 0, 0, 0, OUTSIDE);
        k.send(0, 0, 1, 6, 1, 2);
        Check.dueFromZero("before it is taken", what -> k.message(1, what), 0, 0, 0, OUTSIDE);
        k.receive(1, 1);
        Check.dueFromZero("then", what -> k.message(1, what), 6, 1, 2, OUTSIDE);
        Check.dueFromZero("of the sender", what -> k.message(0, what), 0, 0, 0, OUTSIDE);
        Check.dueForEach("of what", OUTSIDE, what -> k.message(1, what), -1, 3, 4, MIN, MAX);
    }

    private static void messageOfTheLatest() {
        Check.sentence("Of the latest MESSAGE that PROCESS p took");
        LabelKernel k = twoWithEndpoints();
        k.send(0, 0, 1, 6, 3, 1);
        k.send(0, 0, 1, 7, 0, 2);
        k.endpoint(1, 0, 0);
        k.send(0, 0, 2, 8, 1, 0);
        int[][] due = {{6, 3, 1}, {7, 0, 2}, {8, 1, 0}};
        for (int n = 0; n < 3; n++) {
            k.receive(1, n < 2 ? 1 : 2);
            Check.dueFromZero("the latest", what -> k.message(1, what), due[n]);
        }
        k.drop(1, 0, 1);
        Check.due("its plus, where that is dropped", k.message(1, 1), 1);
        k.close(1, 2);
        Check.dueFromZero("where its endpoint is closed", what -> k.message(1, what), 8, 1, 0);
    }

    private static void messageAsARefusal() {
        Check.sentence("(What is told may be as a refusal is.)");
        LabelKernel k = twoWithEndpoints();
        for (int number : new int[] {UNKNOWN, OUTSIDE, DENIED, FULL, CRASHED, LabelKernel.NONE}) {
            k.send(0, 0, 1, number, 0, 0);
            k.receive(1, 1);
            Check.due("the number", k.message(1, 0), number);
        }
    }
}
