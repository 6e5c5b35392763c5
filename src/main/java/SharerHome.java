/** Four caches and the home of four lines, kept coherent by messages that may be delivered in any order. */
public final class SharerHome {

    public static final int BAD = -1;
    public static final int BUSY = -2;

    private static final int CORES = 4;
    private static final int LINES = 4;
    private static final int HOME = 4;
    private static final int LONGEST_RUN = 64;

    // The states of a copy.
    private static final int NONE = 0;
    private static final int SHARED = 1;
    private static final int SOLE = 2;
    private static final int OWN = 3;
    private static final int NONE_TO_READ = 4;
    private static final int NONE_TO_WRITE = 5;
    private static final int NONE_TO_WRITE_WITH_DATA = 6;
    private static final int SHARED_TO_WRITE = 7;
    private static final int SHARED_TO_WRITE_WITH_DATA = 8;
    private static final int LEAVING_OWN = 9;
    private static final int LEAVING_SOLE = 10;
    private static final int LEAVING_SHARED = 11;
    private static final int LEAVING_NOTHING = 12;

    // The keepings of the home.
    private static final int NOBODY = 0;
    private static final int KEPT_SHARED = 1;
    private static final int OWNED = 2;
    private static final int AWAITS_DATA = 3;

    // The kinds of messages.
    private static final int READ = 0;
    private static final int WRITE = 1;
    private static final int LEAVE_SHARED = 2;
    private static final int LEAVE_SOLE = 3;
    private static final int LEAVE_OWN = 4;
    private static final int FORWARD_READ = 5;
    private static final int FORWARD_WRITE = 6;
    private static final int DROP = 7;
    private static final int LEFT = 8;
    private static final int DATA = 9;
    private static final int SOLE_DATA = 10;
    private static final int DROPPED = 11;

    // The parts of a message; the first six are numbered as the document's 'what'.
    private static final int KIND = 0;
    private static final int LINE = 1;
    private static final int SENDER = 2;
    private static final int RECEIVER = 3;
    private static final int REQUESTER = 4;
    private static final int NUMBER = 5;
    private static final int CARRIED = 6;
    private static final int PARTS = 7;

    // The operations of a core.
    private static final int LOADING = 0;
    private static final int STORING = 1;
    private static final int ADDING = 2;

    // What deliver answers for a message that is there.
    private static final int KEPT_BACK = 0;
    private static final int STALLED = 1;
    private static final int TAKEN = 2;

    private final Mail mail;
    private final Core[] cores;
    private final Home home;

    public SharerHome() {
        mail = new Mail();
        home = new Home(mail);
        cores = new Core[CORES];
        for (int core = 0; core < CORES; core++) {
            cores[core] = new Core(core, mail);
        }
    }

    public int load(int core, int line) {
        return isCopy(core, line) ? cores[core].start(LOADING, line, 0) : BAD;
    }

    public int store(int core, int line, int v) {
        return isCopy(core, line) ? cores[core].start(STORING, line, v) : BAD;
    }

    public int add(int core, int line, int v) {
        return isCopy(core, line) ? cores[core].start(ADDING, line, v) : BAD;
    }

    public int leave(int core, int line) {
        return isCopy(core, line) ? cores[core].giveUp(line) : BAD;
    }

    public int deliver(int k) {
        if (!mail.has(k)) {
            return BAD;
        }
        int fate = fateOf(k);
        if (fate == TAKEN) {
            handOver(k);
        }
        return fate;
    }

    public int message(int k, int what) {
        if (k == -1) {
            return mail.count;
        }
        if (!mail.has(k) || what < KIND || what > NUMBER) {
            return BAD;
        }
        return mail.part(k, what);
    }

    public int carried(int k) {
        return mail.has(k) ? mail.part(k, CARRIED) : 0;
    }

    public int state(int core, int line) {
        return isCopy(core, line) ? cores[core].states[line] : BAD;
    }

    public int value(int core, int line) {
        return isCopy(core, line) ? cores[core].shownValue(line) : 0;
    }

    public int due(int core, int line) {
        return isCopy(core, line) ? cores[core].shownOwed(line) : BAD;
    }

    public int home(int line) {
        return isLine(line) ? home.summary(line) : BAD;
    }

    public int memory(int line) {
        return isLine(line) ? home.memories[line] : 0;
    }

    public boolean waits(int core) {
        return isCore(core) && cores[core].waiting;
    }

    public int done(int core) {
        return isCore(core) ? cores[core].finished : BAD;
    }

    public int result(int core) {
        return isCore(core) ? cores[core].latestResult : 0;
    }

    public int tally(int core, int line) {
        return isCopy(core, line) ? mail.tallies[core][line] : BAD;
    }

    public int run(int n) {
        if (n < 1 || n > LONGEST_RUN) {
            return 0;
        }
        for (int taken = 0; taken < n; taken++) {
            int k = oldestToTake();
            if (!mail.has(k)) {
                return taken;
            }
            handOver(k);
        }
        return n;
    }

    private static boolean isCore(int core) {
        return core >= 0 && core < CORES;
    }

    private static boolean isLine(int line) {
        return line >= 0 && line < LINES;
    }

    private static boolean isCopy(int core, int line) {
        return isCore(core) && isLine(line);
    }

    /** The place of the oldest message that a delivery would take, or how many wait if there is none. */
    private int oldestToTake() {
        for (int k = 0; k < mail.count; k++) {
            if (fateOf(k) == TAKEN) {
                return k;
            }
        }
        return mail.count;
    }

    private int fateOf(int k) {
        if (mail.keepsBack(k)) {
            return KEPT_BACK;
        }
        return isStalled(k) ? STALLED : TAKEN;
    }

    private boolean isStalled(int k) {
        int receiver = mail.part(k, RECEIVER);
        int kind = mail.part(k, KIND);
        int line = mail.part(k, LINE);
        return receiver == HOME ? home.stalls(kind, line) : cores[receiver].stalls(kind, line);
    }

    // New messages go to the end, so k still names this one after the receiver has sent its own.
    private void handOver(int k) {
        int receiver = mail.part(k, RECEIVER);
        if (receiver == HOME) {
            home.take(k);
        } else {
            cores[receiver].take(k);
        }
        mail.remove(k);
    }

    /** The messages that wait, oldest first, and the tallies of all that were sent. */
    private static final class Mail {

        // At most 32 wait at once: 4 for each core's operation (DATA and three DROP or DROPPED), one for each of
        // the 12 other copies that may be leaving, and one DATA to the home for each line.
        private static final int ROOM = 64;

        private final int[][] parts = new int[PARTS][ROOM];
        private final int[][] tallies = new int[CORES][LINES];
        private int count = 0;

        boolean has(int k) {
            return k >= 0 && k < count;
        }

        int part(int k, int what) {
            return parts[what][k];
        }

        void send(int kind, int line, int sender, int receiver, int requester, int number, int carried) {
            if (count >= ROOM) {
                return;
            }
            parts[KIND][count] = kind;
            parts[LINE][count] = line;
            parts[SENDER][count] = sender;
            parts[RECEIVER][count] = receiver;
            parts[REQUESTER][count] = requester;
            parts[NUMBER][count] = number;
            parts[CARRIED][count] = carried;
            count++;
            tallies[requester][line] = kind <= LEAVE_OWN ? 1 : tallies[requester][line] + 1;
        }

        void remove(int k) {
            count--;
            for (int what = 0; what < PARTS; what++) {
                for (int i = k; i < count; i++) {
                    parts[what][i] = parts[what][i + 1];
                }
            }
        }

        boolean keepsBack(int k) {
            if (!isOrdered(k)) {
                return false;
            }
            for (int i = 0; i < k; i++) {
                if (isOrdered(i) && parts[LINE][i] == parts[LINE][k] && parts[RECEIVER][i] == parts[RECEIVER][k]) {
                    return true;
                }
            }
            return false;
        }

        private boolean isOrdered(int k) {
            return parts[KIND][k] >= FORWARD_READ && parts[KIND][k] <= LEFT;
        }
    }

    /** A core: its copies of the lines and its one operation. */
    private static final class Core {

        private final int self;
        private final Mail mail;
        private final int[] states = new int[LINES];
        private final int[] values = new int[LINES];
        // DATA's number, once it is here, less the DROPPED taken since the request.
        private final int[] owed = new int[LINES];
        private boolean waiting = false;
        private int operation = LOADING;
        private int operand = 0;
        private int finished = 0;
        private int latestResult = 0;

        Core(int self, Mail mail) {
            this.self = self;
            this.mail = mail;
        }

        int start(int newOperation, int line, int newOperand) {
            if (waiting || !isStill(line)) {
                return BUSY;
            }
            operation = newOperation;
            operand = newOperand;
            if (isEnough(line)) {
                finish(line);
                return 1;
            }
            request(line);
            return 0;
        }

        int giveUp(int line) {
            if (!isStill(line)) {
                return BUSY;
            }
            switch (states[line]) {
                case SHARED:
                    sendLeave(LEAVE_SHARED, line, 0, LEAVING_SHARED);
                    return 1;
                case SOLE:
                    sendLeave(LEAVE_SOLE, line, 0, LEAVING_SOLE);
                    return 1;
                case OWN:
                    sendLeave(LEAVE_OWN, line, values[line], LEAVING_OWN);
                    return 1;
                default:
                    return 0;
            }
        }

        boolean stalls(int kind, int line) {
            switch (kind) {
                case FORWARD_READ:
                case FORWARD_WRITE:
                    return states[line] >= NONE_TO_READ && states[line] <= SHARED_TO_WRITE_WITH_DATA;
                case DROP:
                    return states[line] == NONE_TO_READ;
                default:
                    return false;
            }
        }

        void take(int k) {
            int line = mail.part(k, LINE);
            int requester = mail.part(k, REQUESTER);
            switch (mail.part(k, KIND)) {
                case FORWARD_READ:
                    shareWith(requester, line);
                    break;
                case FORWARD_WRITE:
                    yieldTo(requester, line);
                    break;
                case DROP:
                    dropFor(requester, line);
                    break;
                case LEFT:
                    states[line] = NONE;
                    break;
                case DATA:
                    takeData(line, mail.part(k, NUMBER), mail.part(k, CARRIED));
                    break;
                case SOLE_DATA:
                    values[line] = mail.part(k, CARRIED);
                    states[line] = SOLE;
                    finish(line);
                    break;
                case DROPPED:
                    takeDropped(line);
                    break;
                default:
                    break;
            }
        }

        int shownValue(int line) {
            switch (states[line]) {
                case NONE:
                case NONE_TO_READ:
                case NONE_TO_WRITE:
                case LEAVING_NOTHING:
                    return 0;
                default:
                    return values[line];
            }
        }

        int shownOwed(int line) {
            return states[line] >= NONE_TO_WRITE && states[line] <= SHARED_TO_WRITE_WITH_DATA ? owed[line] : 0;
        }

        private boolean isStill(int line) {
            return states[line] <= OWN;
        }

        private boolean isEnough(int line) {
            return states[line] >= (operation == LOADING ? SHARED : SOLE);
        }

        private void request(int line) {
            waiting = true;
            owed[line] = 0;
            if (operation == LOADING) {
                mail.send(READ, line, self, HOME, self, 0, 0);
                states[line] = NONE_TO_READ;
            } else {
                mail.send(WRITE, line, self, HOME, self, 0, 0);
                states[line] = states[line] == SHARED ? SHARED_TO_WRITE : NONE_TO_WRITE;
            }
        }

        private void sendLeave(int kind, int line, int carried, int next) {
            mail.send(kind, line, self, HOME, self, 0, carried);
            states[line] = next;
        }

        private void shareWith(int requester, int line) {
            boolean leaving = isLeavingAlone(line);
            mail.send(DATA, line, self, requester, requester, 0, values[line]);
            mail.send(DATA, line, self, HOME, requester, 0, values[line]);
            states[line] = leaving ? LEAVING_SHARED : SHARED;
        }

        private void yieldTo(int requester, int line) {
            boolean leaving = isLeavingAlone(line);
            mail.send(DATA, line, self, requester, requester, 0, values[line]);
            states[line] = leaving ? LEAVING_NOTHING : NONE;
        }

        private boolean isLeavingAlone(int line) {
            return states[line] == LEAVING_OWN || states[line] == LEAVING_SOLE;
        }

        private void dropFor(int requester, int line) {
            mail.send(DROPPED, line, self, requester, requester, 0, 0);
            switch (states[line]) {
                case SHARED_TO_WRITE:
                    states[line] = NONE_TO_WRITE;
                    break;
                case LEAVING_SHARED:
                    states[line] = LEAVING_NOTHING;
                    break;
                default:
                    states[line] = NONE;
                    break;
            }
        }

        private void takeData(int line, int number, int carried) {
            values[line] = carried;
            if (states[line] == NONE_TO_READ) {
                states[line] = SHARED;
                finish(line);
                return;
            }
            owed[line] += number;
            states[line] = states[line] == SHARED_TO_WRITE ? SHARED_TO_WRITE_WITH_DATA : NONE_TO_WRITE_WITH_DATA;
            ownIfNothingOwed(line);
        }

        private void takeDropped(int line) {
            owed[line]--;
            if (states[line] == NONE_TO_WRITE_WITH_DATA || states[line] == SHARED_TO_WRITE_WITH_DATA) {
                ownIfNothingOwed(line);
            }
        }

        private void ownIfNothingOwed(int line) {
            if (owed[line] == 0) {
                states[line] = OWN;
                finish(line);
            }
        }

        private void finish(int line) {
            int old = values[line];
            latestResult = operation == STORING ? operand : old;
            if (operation != LOADING) {
                change(line, operation == STORING ? operand : old + operand);
            }
            finished++;
            waiting = false;
        }

        private void change(int line, int newValue) {
            values[line] = newValue;
            if (states[line] == SOLE) {
                states[line] = OWN;
            }
        }
    }

    /** The home: the memory of each line and who has copies of it. */
    private static final class Home {

        private final Mail mail;
        private final int[] memories = new int[LINES];
        private final int[] keepings = new int[LINES];
        private final int[] owners = new int[LINES];
        // Sums of 2^core.
        private final int[] sharers = new int[LINES];

        Home(Mail mail) {
            this.mail = mail;
        }

        int summary(int line) {
            int owner = keepings[line] == OWNED ? owners[line] + 1 : 0;
            return keepings[line] + 4 * owner + 32 * sharers[line];
        }

        boolean stalls(int kind, int line) {
            return (kind == READ || kind == WRITE) && keepings[line] == AWAITS_DATA;
        }

        void take(int k) {
            int line = mail.part(k, LINE);
            int requester = mail.part(k, REQUESTER);
            switch (mail.part(k, KIND)) {
                case READ:
                    takeRead(line, requester);
                    break;
                case WRITE:
                    takeWrite(line, requester);
                    break;
                case LEAVE_SHARED:
                case LEAVE_SOLE:
                case LEAVE_OWN:
                    takeLeave(k, line, requester);
                    break;
                case DATA:
                    memories[line] = mail.part(k, CARRIED);
                    keepings[line] = sharers[line] == 0 ? NOBODY : KEPT_SHARED;
                    break;
                default:
                    break;
            }
        }

        private void takeRead(int line, int requester) {
            switch (keepings[line]) {
                case NOBODY:
                    mail.send(SOLE_DATA, line, HOME, requester, requester, 0, memories[line]);
                    makeOwner(requester, line);
                    break;
                case KEPT_SHARED:
                    mail.send(DATA, line, HOME, requester, requester, 0, memories[line]);
                    sharers[line] |= bit(requester);
                    break;
                default:
                    mail.send(FORWARD_READ, line, HOME, owners[line], requester, 0, 0);
                    sharers[line] = bit(owners[line]) | bit(requester);
                    keepings[line] = AWAITS_DATA;
                    break;
            }
        }

        private void takeWrite(int line, int requester) {
            switch (keepings[line]) {
                case NOBODY:
                    mail.send(DATA, line, HOME, requester, requester, 0, memories[line]);
                    break;
                case KEPT_SHARED:
                    dropOthers(line, requester);
                    break;
                default:
                    mail.send(FORWARD_WRITE, line, HOME, owners[line], requester, 0, 0);
                    break;
            }
            makeOwner(requester, line);
        }

        private void dropOthers(int line, int requester) {
            int others = sharers[line] & ~bit(requester);
            mail.send(DATA, line, HOME, requester, requester, Integer.bitCount(others), memories[line]);
            for (int core = 0; core < CORES; core++) {
                if ((others & bit(core)) != 0) {
                    mail.send(DROP, line, HOME, core, requester, 0, 0);
                }
            }
            sharers[line] = 0;
        }

        private void takeLeave(int k, int line, int requester) {
            if (keepings[line] == OWNED && owners[line] == requester) {
                if (mail.part(k, KIND) == LEAVE_OWN) {
                    memories[line] = mail.part(k, CARRIED);
                }
                keepings[line] = NOBODY;
            } else {
                forgetSharer(line, requester);
            }
            mail.send(LEFT, line, HOME, requester, requester, 0, 0);
        }

        private void forgetSharer(int line, int requester) {
            sharers[line] &= ~bit(requester);
            if (keepings[line] == KEPT_SHARED && sharers[line] == 0) {
                keepings[line] = NOBODY;
            }
        }

        private void makeOwner(int requester, int line) {
            owners[line] = requester;
            keepings[line] = OWNED;
        }

        private static int bit(int core) {
            return 1 << core;
        }
    }
}
