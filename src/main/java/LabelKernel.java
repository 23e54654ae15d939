/** A kernel in which labels go with what is known; shared/DOC.md says in 24 promises what it does. */
public final class LabelKernel {
    public static final int NONE = -1, UNKNOWN = -1000001, OUTSIDE = -1000002, DENIED = -1000003, FULL = -1000004, CRASHED = -1000005;

    private static final int MOST_TAGS = 24, MOST_PROCESSES = 24, MOST_ENDPOINTS = 40, MOST_OBJECTS = 60;
    private static final int MOST_WAITING = 4, MOST_NUMBERS = 32, MOST_APPENDED = 8, NUMBERS_IN_A_BLOCK = 4;
    private static final int MOST_BLOCKS = 200, MOST_PLACES = 50, LATEST_CRASH = 100;
    private static final int SECRET = 0, SEAL = 1, OWN = 2;
    private static final int ENTRIES_TO_MAKE = 2, ENTRIES_AT_THE_END = 1;

    private final ProcessRow[] processRows;
    private final EndpointRow[] endpointRows;
    private final ObjectRow[] objectRows;
    private int tagsMade;
    private int processesMade;
    private int endpointsMade;
    private int objectsMade;
    private int everybodyPlus;
    private int everybodyMinus;
    private int messagesLost;
    private int entriesMade;
    private int crashTold;
    private int crashesMet;

    public LabelKernel() {
        processRows = new ProcessRow[MOST_PROCESSES];
        for (int p = 0; p < processRows.length; p++) {
            processRows[p] = new ProcessRow();
        }
        endpointRows = new EndpointRow[MOST_ENDPOINTS];
        for (int e = 0; e < endpointRows.length; e++) {
            endpointRows[e] = new EndpointRow();
        }
        objectRows = new ObjectRow[MOST_OBJECTS];
        for (int o = 0; o < objectRows.length; o++) {
            objectRows[o] = new ObjectRow();
        }
        processRows[0].begin(NONE, 0, 0, 0, 0);
        processesMade = 1;
        objectRows[0].begin(true, NONE, 0, 0, MOST_BLOCKS, MOST_PLACES);
        objectsMade = 1;
        crashTold = NONE;
    }

    // ---- tags, processes

    public int tag(int p, int kind) {
        ProcessRow maker = processAt(p);
        if (maker == null) {
            return UNKNOWN;
        }
        if (kind < SECRET || kind > OWN) {
            return OUTSIDE;
        }
        if (tagsMade >= MOST_TAGS) {
            return FULL;
        }
        int bit = 1 << tagsMade;
        if (kind == SECRET) {
            everybodyPlus |= bit;
        } else {
            maker.plus |= bit;
        }
        if (kind == SEAL) {
            everybodyMinus |= bit;
        } else {
            maker.minus |= bit;
        }
        tagsMade++;
        return tagsMade - 1;
    }

    public int everybody(int what) {
        switch (what) {
            case 0: return everybodyPlus;
            case 1: return everybodyMinus;
            default: return OUTSIDE;
        }
    }

    public int told(int p, int what) {
        ProcessRow row = processAt(p);
        if (row == null) {
            return UNKNOWN;
        }
        switch (what) {
            case 0: return row.secrets;
            case 1: return row.seals;
            case 2: return row.plus;
            case 3: return row.minus;
            case 4: return row.parent;
            case 5: return openEndpointsOf(p);
            case 6: return both(row.plus, row.minus);
            default: return OUTSIDE;
        }
    }

    public int label(int p, int what, int set) {
        ProcessRow row = processAt(p);
        if (row == null) {
            return UNKNOWN;
        }
        if (what < 0 || what > 1 || !isSet(set)) {
            return OUTSIDE;
        }
        int was = what == 0 ? row.secrets : row.seals;
        int secrets = what == 0 ? set : row.secrets;
        int seals = what == 0 ? row.seals : set;
        if (!isSafe(row, was, set) || !endpointsFit(p, secrets, seals, both(row.plus, row.minus))) {
            return DENIED;
        }
        row.secrets = secrets;
        row.seals = seals;
        return was;
    }

    public int drop(int p, int what, int set) {
        ProcessRow row = processAt(p);
        if (row == null) {
            return UNKNOWN;
        }
        if (what < 0 || what > 1 || !isSet(set)) {
            return OUTSIDE;
        }
        int plus = what == 0 ? row.plus & ~set : row.plus;
        int minus = what == 0 ? row.minus : row.minus & ~set;
        if (!endpointsFit(p, row.secrets, row.seals, both(plus, minus))) {
            return DENIED;
        }
        row.plus = plus;
        row.minus = minus;
        return what == 0 ? plus : minus;
    }

    public int spawn(int p, int secrets, int seals, int plus, int minus) {
        ProcessRow maker = processAt(p);
        if (maker == null) {
            return UNKNOWN;
        }
        if (!isSet(secrets) || !isSet(seals) || !isSet(plus) || !isSet(minus)) {
            return OUTSIDE;
        }
        boolean safe = isSafe(maker, maker.secrets, secrets) && isSafe(maker, maker.seals, seals);
        if (!safe || !owns(maker, plus, minus)) {
            return DENIED;
        }
        int made = processesMade;
        if (made >= processRows.length) {
            return FULL;
        }
        processRows[made].begin(p, secrets, seals, plus, minus);
        processesMade = made + 1;
        return made;
    }

    public int exit(int p) {
        ProcessRow row = processAt(p);
        if (row == null) {
            return UNKNOWN;
        }
        if (p == 0) {
            return DENIED;
        }
        int open = openEndpointsOf(p);
        row.alive = false;
        closeEndpointsOf(p);
        return open;
    }

    // ---- endpoints

    public int endpoint(int p, int secrets, int seals) {
        ProcessRow owner = processAt(p);
        if (owner == null) {
            return UNKNOWN;
        }
        if (!isSet(secrets) || !isSet(seals)) {
            return OUTSIDE;
        }
        int differs = (secrets ^ owner.secrets) | (seals ^ owner.seals);
        if (!isWithin(differs, both(owner.plus, owner.minus))) {
            return DENIED;
        }
        int made = endpointsMade;
        if (made >= endpointRows.length) {
            return FULL;
        }
        endpointRows[made].begin(p, secrets, seals);
        endpointsMade = made + 1;
        return made;
    }

    public int close(int p, int e) {
        EndpointRow row = endpointAt(e);
        if (processAt(p) == null || row == null) {
            return UNKNOWN;
        }
        if (row.owner != p) {
            return DENIED;
        }
        row.open = false;
        return row.waiting;
    }

    public int port(int e, int what) {
        EndpointRow row = endpointAt(e);
        if (row == null) {
            return UNKNOWN;
        }
        switch (what) {
            case 0: return row.owner;
            case 1: return row.secrets;
            case 2: return row.seals;
            case 3: return row.waiting;
            default: return OUTSIDE;
        }
    }

    public int send(int p, int e, int f, int value, int plus, int minus) {
        ProcessRow sender = processAt(p);
        EndpointRow from = endpointAt(e);
        if (sender == null || from == null) {
            return UNKNOWN;
        }
        if (f < 0 || f >= MOST_ENDPOINTS || !isSet(plus) || !isSet(minus)) {
            return OUTSIDE;
        }
        if (from.owner != p || !owns(sender, plus, minus)) {
            return DENIED;
        }
        EndpointRow to = endpointAt(f);
        if (to != null && to.hasRoom() && flows(from.secrets, from.seals, to.secrets, to.seals)) {
            to.put(value, plus, minus);
        } else {
            messagesLost++;
        }
        // The same answer for all, so that nothing flows back to the sender.
        return 1;
    }

    public int receive(int p, int e) {
        ProcessRow receiver = processAt(p);
        EndpointRow row = endpointAt(e);
        if (receiver == null || row == null) {
            return UNKNOWN;
        }
        if (row.owner != p) {
            return DENIED;
        }
        if (row.waiting == 0) {
            return 0;
        }
        receiver.take(row.values[0], row.pluses[0], row.minuses[0]);
        row.moveUp();
        return 1;
    }

    public int message(int p, int what) {
        ProcessRow row = processAt(p);
        if (row == null) {
            return UNKNOWN;
        }
        switch (what) {
            case 0: return row.takenValue;
            case 1: return row.takenPlus;
            case 2: return row.takenMinus;
            default: return OUTSIDE;
        }
    }

    // ---- objects

    public int container(int p, int c, int secrets, int seals, int blocks, int objects) {
        ProcessRow maker = processAt(p);
        ObjectRow home = containerAt(c);
        if (maker == null || home == null) {
            return UNKNOWN;
        }
        boolean inBounds = blocks >= 0 && blocks <= MOST_BLOCKS && objects >= 0 && objects <= MOST_PLACES;
        if (!isSet(secrets) || !isSet(seals) || !inBounds) {
            return OUTSIDE;
        }
        if (!mayMake(maker, home, secrets, seals)) {
            return DENIED;
        }
        if (blocks > blocksLeft(c) || 1 + objects > placesLeft(c)) {
            return FULL;
        }
        return make(true, c, secrets, seals, blocks, objects);
    }

    public int file(int p, int c, int secrets, int seals) {
        ProcessRow maker = processAt(p);
        ObjectRow home = containerAt(c);
        if (maker == null || home == null) {
            return UNKNOWN;
        }
        if (!isSet(secrets) || !isSet(seals)) {
            return OUTSIDE;
        }
        if (!mayMake(maker, home, secrets, seals)) {
            return DENIED;
        }
        if (placesLeft(c) < 1) {
            return FULL;
        }
        return make(false, c, secrets, seals, 0, 0);
    }

    public int remove(int p, int o) {
        ProcessRow remover = processAt(p);
        ObjectRow row = objectAt(o);
        if (remover == null || row == null) {
            return UNKNOWN;
        }
        ObjectRow home = objectAt(row.home);
        if (home == null || !canRead(remover, home) || !canWrite(remover, home)) {
            return DENIED;
        }
        if (enter(sizeOfTree(o) + ENTRIES_AT_THE_END)) {
            removeTree(o);
        }
        return outcome(1);
    }

    public int write(int p, int f, int i, int v) {
        ProcessRow writer = processAt(p);
        ObjectRow file = fileAt(f);
        if (writer == null || file == null) {
            return UNKNOWN;
        }
        if (i < 0 || i >= MOST_NUMBERS) {
            return OUTSIDE;
        }
        if (!canWrite(writer, file)) {
            return DENIED;
        }
        boolean blind = !canRead(writer, file);
        if (i > file.length) {
            return blind ? 1 : OUTSIDE;
        }
        return writeRun(file, blind, i, 1, v);
    }

    public int append(int p, int f, int n, int v) {
        ProcessRow writer = processAt(p);
        ObjectRow file = fileAt(f);
        if (writer == null || file == null) {
            return UNKNOWN;
        }
        if (n < 1 || n > MOST_APPENDED) {
            return OUTSIDE;
        }
        if (!canWrite(writer, file)) {
            return DENIED;
        }
        return writeRun(file, !canRead(writer, file), file.length, n, v);
    }

    public int read(int p, int f, int i) {
        ProcessRow reader = processAt(p);
        ObjectRow file = fileAt(f);
        if (reader == null || file == null) {
            return UNKNOWN;
        }
        if (!canRead(reader, file)) {
            return DENIED;
        }
        if (i < 0 || i >= file.length || i >= file.numbers.length) {
            return OUTSIDE;
        }
        return file.numbers[i];
    }

    public int object(int p, int o, int what) {
        ProcessRow asker = processAt(p);
        ObjectRow row = objectAt(o);
        if (asker == null || row == null) {
            return UNKNOWN;
        }
        if (what < 0 || what > 6) {
            return OUTSIDE;
        }
        // CONTAINER 0 stands in none, so there is none that could hide what 0 to 3 tell of it.
        ObjectRow hiding = what >= 4 ? row : objectAt(row.home);
        if (hiding != null && !canRead(asker, hiding)) {
            return DENIED;
        }
        switch (what) {
            case 0: return row.isContainer ? 1 : 0;
            case 1: return row.secrets;
            case 2: return row.seals;
            case 3: return row.home;
            case 4: return row.length;
            case 5: return blocksLeft(o);
            default: return placesLeft(o);
        }
    }

    public int list(int p, int c, int i) {
        ProcessRow reader = processAt(p);
        ObjectRow container = containerAt(c);
        if (reader == null || container == null) {
            return UNKNOWN;
        }
        if (!canRead(reader, container)) {
            return DENIED;
        }
        int before = 0;
        for (int o = 0; o < objectsMade; o++) {
            if (standsIn(o, c)) {
                if (before == i) {
                    return o;
                }
                before++;
            }
        }
        return NONE;
    }

    // ---- crashes

    public int crash(int n) {
        if (n < NONE || n > LATEST_CRASH) {
            return OUTSIDE;
        }
        crashTold = n;
        return 1;
    }

    public int count(int what) {
        switch (what) {
            case 0: return tagsMade;
            case 1: return livingProcesses();
            case 2: return openEndpoints();
            case 3: return objectsThere();
            case 4: return entriesMade;
            case 5: return crashesMet;
            case 6: return messagesLost;
            default: return OUTSIDE;
        }
    }

    // ---- sets and labels

    private static boolean isWithin(int part, int whole) {
        return (part & ~whole) == 0;
    }

    private static boolean flows(int fromSecrets, int fromSeals, int toSecrets, int toSeals) {
        return isWithin(fromSecrets, toSecrets) && isWithin(toSeals, fromSeals);
    }

    private boolean isSet(int set) {
        return set >>> tagsMade == 0;
    }

    /** BOTH of a process that owns these two sets. */
    private int both(int plus, int minus) {
        return (plus | everybodyPlus) & (minus | everybodyMinus);
    }

    private boolean isSafe(ProcessRow row, int from, int into) {
        return isWithin(into & ~from, row.plus | everybodyPlus) && isWithin(from & ~into, row.minus | everybodyMinus);
    }

    private static boolean owns(ProcessRow row, int plus, int minus) {
        return isWithin(plus, row.plus) && isWithin(minus, row.minus);
    }

    private static boolean canRead(ProcessRow row, ObjectRow what) {
        return flows(what.secrets, what.seals, row.secrets, row.seals);
    }

    private static boolean canWrite(ProcessRow row, ObjectRow what) {
        return flows(row.secrets, row.seals, what.secrets, what.seals);
    }

    // ---- processes and their endpoints

    /** The process of this number, or null: there is none, or none any more. */
    private ProcessRow processAt(int p) {
        if (p < 0 || p >= processRows.length || !processRows[p].alive) {
            return null;
        }
        return processRows[p];
    }

    /** The open endpoint of this number, or null. */
    private EndpointRow endpointAt(int e) {
        if (e < 0 || e >= endpointRows.length || !endpointRows[e].open) {
            return null;
        }
        return endpointRows[e];
    }

    private int openEndpointsOf(int p) {
        int open = 0;
        for (int e = 0; e < endpointRows.length; e++) {
            if (endpointRows[e].open && endpointRows[e].owner == p) {
                open++;
            }
        }
        return open;
    }

    private void closeEndpointsOf(int p) {
        for (int e = 0; e < endpointRows.length; e++) {
            if (endpointRows[e].owner == p) {
                endpointRows[e].open = false;
            }
        }
    }

    /** Whether all endpoints of p would be as section 2 tells, if p had this label and this BOTH. */
    private boolean endpointsFit(int p, int secrets, int seals, int both) {
        for (int e = 0; e < endpointRows.length; e++) {
            EndpointRow row = endpointRows[e];
            int differs = (row.secrets ^ secrets) | (row.seals ^ seals);
            if (row.open && row.owner == p && !isWithin(differs, both)) {
                return false;
            }
        }
        return true;
    }

    private int livingProcesses() {
        int living = 0;
        for (int p = 0; p < processRows.length; p++) {
            if (processRows[p].alive) {
                living++;
            }
        }
        return living;
    }

    private int openEndpoints() {
        int open = 0;
        for (int e = 0; e < endpointRows.length; e++) {
            if (endpointRows[e].open) {
                open++;
            }
        }
        return open;
    }

    // ---- objects and their room

    /** The object of this number, or null: there is none, or none any more. */
    private ObjectRow objectAt(int o) {
        if (o < 0 || o >= objectRows.length || !objectRows[o].there) {
            return null;
        }
        return objectRows[o];
    }

    private ObjectRow containerAt(int c) {
        ObjectRow row = objectAt(c);
        return row != null && row.isContainer ? row : null;
    }

    private ObjectRow fileAt(int f) {
        ObjectRow row = objectAt(f);
        return row != null && !row.isContainer ? row : null;
    }

    private boolean standsIn(int o, int c) {
        ObjectRow row = objectAt(o);
        return row != null && row.home == c;
    }

    private int objectsThere() {
        int there = 0;
        for (int o = 0; o < objectRows.length; o++) {
            if (objectRows[o].there) {
                there++;
            }
        }
        return there;
    }

    private int blocksLeft(int c) {
        ObjectRow container = containerAt(c);
        if (container == null) {
            return 0;
        }
        int left = container.blocks;
        for (int o = 0; o < objectRows.length; o++) {
            if (standsIn(o, c)) {
                left -= objectRows[o].blocksTaken();
            }
        }
        return left;
    }

    private int placesLeft(int c) {
        ObjectRow container = containerAt(c);
        if (container == null) {
            return 0;
        }
        int left = container.places;
        for (int o = 0; o < objectRows.length; o++) {
            if (standsIn(o, c)) {
                left -= 1 + objectRows[o].places;
            }
        }
        return left;
    }

    private static int blocksFor(int numbers) {
        return (numbers + NUMBERS_IN_A_BLOCK - 1) / NUMBERS_IN_A_BLOCK;
    }

    private static boolean mayMake(ProcessRow maker, ObjectRow home, int secrets, int seals) {
        return canRead(maker, home) && canWrite(maker, home)
            && flows(home.secrets, home.seals, secrets, seals)
            && flows(maker.secrets, maker.seals, secrets, seals);
    }

    private int make(boolean isContainer, int home, int secrets, int seals, int blocks, int places) {
        int made = objectsMade;
        if (made >= objectRows.length) {
            return FULL;
        }
        if (enter(ENTRIES_TO_MAKE + ENTRIES_AT_THE_END)) {
            objectRows[made].begin(isContainer, home, secrets, seals, blocks, places);
            objectsMade = made + 1;
        }
        return outcome(made);
    }

    private int writeRun(ObjectRow file, boolean blind, int at, int n, int v) {
        if (!hasRoomUpTo(file, at + n)) {
            return blind ? 1 : FULL;
        }
        if (enter(n + ENTRIES_AT_THE_END)) {
            for (int k = 0; k < n; k++) {
                file.put(at + k, v + k);
            }
        }
        return outcome(1);
    }

    private boolean hasRoomUpTo(ObjectRow file, int length) {
        if (length > MOST_NUMBERS) {
            return false;
        }
        return blocksFor(length) - blocksFor(file.length) <= blocksLeft(file.home);
    }

    /** Whether o is the object whole, or stands in it at any depth. */
    private boolean isPartOf(int o, int whole) {
        int at = o;
        for (int depth = 0; depth < MOST_OBJECTS && at != whole; depth++) {
            ObjectRow row = objectAt(at);
            if (row == null) {
                return false;
            }
            at = row.home;
        }
        return at == whole;
    }

    private int sizeOfTree(int whole) {
        int size = 0;
        for (int o = 0; o < objectRows.length; o++) {
            if (objectRows[o].there && isPartOf(o, whole)) {
                size++;
            }
        }
        return size;
    }

    private void removeTree(int whole) {
        // What stands in a container has a higher number, so it goes before the way up from it is gone.
        for (int o = objectRows.length - 1; o >= whole; o--) {
            if (objectRows[o].there && isPartOf(o, whole)) {
                objectRows[o].there = false;
            }
        }
    }

    // ---- the journal

    /** Makes so many entries, if no crash cuts the call: whether its changes to objects are to be done. */
    private boolean enter(int entries) {
        if (crashTold != NONE && entries > crashTold) {
            return false;
        }
        entriesMade += entries;
        return true;
    }

    /** What a call that made entries answers at its end. */
    private int outcome(int answer) {
        if (crashTold == NONE) {
            return answer;
        }
        crashTold = NONE;
        crashesMet++;
        startAnew();
        return CRASHED;
    }

    private void startAnew() {
        for (int e = 0; e < endpointRows.length; e++) {
            endpointRows[e].open = false;
        }
        for (int p = 0; p < processRows.length; p++) {
            processRows[p].alive = false;
        }
        processRows[0].begin(NONE, 0, 0, 0, 0);
    }

    private static final class ProcessRow {
        private boolean alive;
        private int parent;
        private int secrets;
        private int seals;
        private int plus;
        private int minus;
        private int takenValue;
        private int takenPlus;
        private int takenMinus;

        private void begin(int madeBy, int newSecrets, int newSeals, int newPlus, int newMinus) {
            alive = true;
            parent = madeBy;
            secrets = newSecrets;
            seals = newSeals;
            plus = newPlus;
            minus = newMinus;
            takenValue = 0;
            takenPlus = 0;
            takenMinus = 0;
        }

        private void take(int value, int morePlus, int moreMinus) {
            takenValue = value;
            takenPlus = morePlus;
            takenMinus = moreMinus;
            plus |= morePlus;
            minus |= moreMinus;
        }
    }

    private static final class EndpointRow {
        private final int[] values = new int[MOST_WAITING];
        private final int[] pluses = new int[MOST_WAITING];
        private final int[] minuses = new int[MOST_WAITING];
        private boolean open;
        private int owner;
        private int secrets;
        private int seals;
        private int waiting;

        private void begin(int newOwner, int newSecrets, int newSeals) {
            open = true;
            owner = newOwner;
            secrets = newSecrets;
            seals = newSeals;
        }

        private boolean hasRoom() {
            return waiting >= 0 && waiting < MOST_WAITING;
        }

        private void put(int value, int plus, int minus) {
            if (hasRoom()) {
                values[waiting] = value;
                pluses[waiting] = plus;
                minuses[waiting] = minus;
                waiting++;
            }
        }

        /** The first message is gone, and the others stand one place nearer. */
        private void moveUp() {
            for (int k = 1; k < MOST_WAITING; k++) {
                values[k - 1] = values[k];
                pluses[k - 1] = pluses[k];
                minuses[k - 1] = minuses[k];
            }
            waiting--;
        }
    }

    private static final class ObjectRow {
        private final int[] numbers = new int[MOST_NUMBERS];
        private boolean there;
        private boolean isContainer;
        private int home;
        private int secrets;
        private int seals;
        private int blocks;
        private int places;
        private int length;

        private void begin(boolean asContainer, int newHome, int newSecrets, int newSeals, int newBlocks, int newPlaces) {
            there = true;
            isContainer = asContainer;
            home = newHome;
            secrets = newSecrets;
            seals = newSeals;
            blocks = newBlocks;
            places = newPlaces;
        }

        private int blocksTaken() {
            return isContainer ? blocks : blocksFor(length);
        }

        private void put(int i, int v) {
            if (i >= 0 && i < numbers.length) {
                numbers[i] = v;
                length = Math.max(length, i + 1);
            }
        }
    }
}
