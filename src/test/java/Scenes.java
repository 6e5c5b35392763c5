/** Objects brought to a place that several tests begin from, and what they ask of an object as a whole. */
final class Scenes {

    static final int HOME = 4;
    static final int READ = 0;
    static final int WRITE = 1;
    static final int LEAVE_SHARED = 2;
    static final int LEAVE_SOLE = 3;
    static final int LEAVE_OWN = 4;
    static final int FORWARD_READ = 5;
    static final int FORWARD_WRITE = 6;
    static final int DROP = 7;
    static final int LEFT = 8;
    static final int DATA = 9;
    static final int SOLE_DATA = 10;
    static final int DROPPED = 11;

    static final int COUNT = -1;
    static final int STATES = 13;

    /** The core, the line and the value of inState. */
    static final int CORE = 1;
    static final int LINE = 2;
    static final int VALUE = 20;

    /** Just below 0, just above 3, the smallest and the largest int, then some that a mask or a narrow type lets in. */
    static final int[] NOT_0_TO_3 = {-1, 4, Integer.MIN_VALUE, Integer.MAX_VALUE, -2, 5, -4, 8, 64, 256, -256, 65536, 1 << 30};

    private Scenes() {
    }

    /** Everything that the program shows, as one text: two equal texts mean that a call changed nothing. */
    static String shown(SharerHome x) {
        StringBuilder text = new StringBuilder();
        for (int k = 0; k < x.message(COUNT, 0); k++) {
            for (int what = 0; what < 6; what++) {
                text.append(x.message(k, what)).append(' ');
            }
            text.append(x.carried(k)).append(';');
        }
        for (int core = 0; core < 4; core++) {
            text.append(x.waits(core)).append(x.done(core)).append(' ').append(x.result(core)).append(';');
            for (int line = 0; line < 4; line++) {
                text.append(x.state(core, line)).append(' ').append(x.value(core, line)).append(' ');
                text.append(x.due(core, line)).append(' ').append(x.tally(core, line)).append(';');
            }
        }
        for (int line = 0; line < 4; line++) {
            text.append(x.home(line)).append(' ').append(x.memory(line)).append(';');
        }
        return text.toString();
    }

    /** The oldest waiting message of a kind to a receiver, or how many wait if there is none. */
    static int place(SharerHome x, int kind, int receiver) {
        int count = x.message(COUNT, 0);
        for (int k = 0; k < count; k++) {
            if (x.message(k, 0) == kind && x.message(k, 3) == receiver) {
                return k;
            }
        }
        return count;
    }

    static int deliver(SharerHome x, int kind, int receiver) {
        return x.deliver(place(x, kind, receiver));
    }

    /** Core 0 stores v to a line, then cores 1 .. many - 1 load it: they share it, and its memory is v if many > 1. */
    static void share(SharerHome x, int line, int v, int many) {
        x.store(0, line, v);
        x.run(64);
        for (int core = 1; core < many; core++) {
            x.load(core, line);
            x.run(64);
        }
    }

    /** All four cores share all four lines; the value and the memory of line a is a + 1. */
    static SharerHome allShareAll() {
        SharerHome x = new SharerHome();
        for (int line = 0; line < 4; line++) {
            share(x, line, line + 1, 4);
        }
        return x;
    }

    /** From allShareAll: core c stores 10 + c to line c and leaves the other lines; nothing of it is delivered. */
    static SharerHome allWriteAndLeave() {
        SharerHome x = allShareAll();
        for (int core = 0; core < 4; core++) {
            x.store(core, core, 10 + core);
        }
        for (int core = 0; core < 4; core++) {
            for (int line = 0; line < 4; line++) {
                x.leave(core, line);
            }
        }
        return x;
    }

    /**
     * CORE's copy of LINE is in a state, by the shortest way that leaves a value behind: VALUE is the copy's value
     * where the state has one, and what it was before where it has none. All lines but LINE are as in a new object.
     */
    static SharerHome inState(int state) {
        switch (state) {
            case 0:
                return hasLeft();
            case 1:
                return sharing();
            case 2:
                return sole();
            case 3:
                return own();
            case 4:
                return loading();
            case 5:
                return storing(hasLeft());
            case 6:
                return withData(storing(outOfSharers()));
            case 7:
                return storing(sharing());
            case 8:
                return withData(storing(sharing()));
            case 9:
                return leaving(own());
            case 10:
                return leaving(sole());
            case 11:
                return leaving(sharing());
            default:
                return leavingWithNothing();
        }
    }

    private static SharerHome own() {
        SharerHome x = new SharerHome();
        x.store(CORE, LINE, VALUE);
        x.run(64);
        return x;
    }

    private static SharerHome hasLeft() {
        SharerHome x = leaving(own());
        x.run(64);
        return x;
    }

    private static SharerHome sole() {
        SharerHome x = hasLeft();
        x.load(CORE, LINE);
        x.run(64);
        return x;
    }

    private static SharerHome sharing() {
        SharerHome x = own();
        x.load(0, LINE);
        x.run(64);
        return x;
    }

    /** Cores 0 and 3 share VALUE; CORE had another value, and has nothing any more. */
    private static SharerHome outOfSharers() {
        SharerHome x = new SharerHome();
        x.store(CORE, LINE, 3);
        x.run(64);
        x.store(0, LINE, VALUE);
        x.run(64);
        x.load(3, LINE);
        x.run(64);
        return x;
    }

    private static SharerHome loading() {
        SharerHome x = hasLeft();
        x.load(CORE, LINE);
        return x;
    }

    private static SharerHome storing(SharerHome x) {
        x.store(CORE, LINE, 33);
        return x;
    }

    private static SharerHome withData(SharerHome x) {
        deliver(x, WRITE, HOME);
        deliver(x, DATA, CORE);
        return x;
    }

    private static SharerHome leaving(SharerHome x) {
        x.leave(CORE, LINE);
        return x;
    }

    private static SharerHome leavingWithNothing() {
        SharerHome x = leaving(sharing());
        x.store(0, LINE, 44);
        deliver(x, WRITE, HOME);
        deliver(x, DROP, CORE);
        return x;
    }
}
