/**
 * Promise 6 at its edges: which messages are kept back and which are not, every state and keeping in which a message
 * stalls and those next to them in which it does not. Promise 18 at its edges: how many a run takes.
 */
public final class DeliveryTest {

    private static final int BAD = SharerHome.BAD;
    private static final int KEPT_BACK = 0;
    private static final int STALLS = 1;
    private static final int TAKEN = 2;
    private static final int HOME = Scenes.HOME;
    private static final int A = 1;
    private static final int B = 3;

    private static final Check CHECK = new Check("DeliveryTest");

    public static void main(String[] args) {
        for (int kind = Scenes.FORWARD_READ; kind <= Scenes.FORWARD_WRITE; kind++) {
            forwardStallsInState4(kind);
            forwardStallsInState5(kind);
            forwardStallsInStates6And8(kind, 3, 5);
            forwardStallsInStates6And8(kind, 0, 7);
            forwardIsTakenInStillAndLeavingStates(kind);
        }
        dropStallsInState4Alone();
        homeStallsInKeeping3Alone();
        homeTakesEachLeaveInKeeping3();
        leftIsKeptBackByForward(Scenes.FORWARD_READ);
        leftIsKeptBackByForward(Scenes.FORWARD_WRITE);
        leftIsKeptBackByDrop();
        forwardIsKeptBackByDrop(Scenes.FORWARD_READ);
        forwardIsKeptBackByDrop(Scenes.FORWARD_WRITE);
        keptBackOnlyForTheSameLine();
        keptBackOnlyForTheSameCore();
        otherKindsAreNotKeptBack();
        messagesToTheHomeAreNotKeptBack();
        deliverCountsFromTheOldest();
        runTakesAsManyAsThereAre();
        runGoesRoundWhatStalls();
        runGoesRoundWhatIsKeptBack();
        runLooksAgainFromTheOldest();
        CHECK.end();
    }

    private static void is(String call, long got, long want) {
        CHECK.due(call, got, want);
    }

    private static void answers(String call, SharerHome x, int kind, int receiver, int want) {
        int k = Scenes.place(x, kind, receiver);
        String before = Scenes.shown(x);
        is("6: " + call + ", kind " + kind + " to " + receiver, x.deliver(k), want);
        if (want != TAKEN) {
            CHECK.due("6: " + call + " changes nothing", Scenes.shown(x).equals(before), true);
        }
    }

    /** A core asks for line A, so that the home forwards it to the owner. */
    private static void asks(SharerHome x, int kind, int core) {
        if (kind == Scenes.FORWARD_READ) {
            x.load(core, A);
            answers("READ", x, Scenes.READ, HOME, TAKEN);
        } else {
            x.store(core, A, 77);
            answers("WRITE", x, Scenes.WRITE, HOME, TAKEN);
        }
    }

    private static void forwardStallsInState4(int kind) {
        SharerHome x = new SharerHome();
        x.load(0, A);
        x.deliver(0);
        asks(x, kind, 2);
        is("9: state 4", x.state(0, A), 4);
        answers("in state 4", x, kind, 0, STALLS);
        answers("in state 4 again", x, kind, 0, STALLS);
        answers("the data", x, Scenes.SOLE_DATA, 0, TAKEN);
        answers("in state 2", x, kind, 0, TAKEN);
    }

    private static void forwardStallsInState5(int kind) {
        SharerHome x = new SharerHome();
        x.store(0, A, 5);
        x.deliver(0);
        asks(x, kind, 2);
        is("9: state 5", x.state(0, A), 5);
        answers("in state 5", x, kind, 0, STALLS);
        answers("the data", x, Scenes.DATA, 0, TAKEN);
        answers("in state 3", x, kind, 0, TAKEN);
    }

    /** Cores 0 and 1 share; the writer is one of them (states 7 and 8) or another one (5 and 6). */
    private static void forwardStallsInStates6And8(int kind, int writer, int state) {
        SharerHome x = new SharerHome();
        Scenes.share(x, A, 6, 2);
        x.store(writer, A, 8);
        answers("WRITE", x, Scenes.WRITE, HOME, TAKEN);
        asks(x, kind, 2);
        is("9: state", x.state(writer, A), state);
        answers("in state " + state, x, kind, writer, STALLS);
        answers("the data", x, Scenes.DATA, writer, TAKEN);
        is("9: state with data", x.state(writer, A), state + 1);
        answers("in state " + (state + 1), x, kind, writer, STALLS);
        if (writer != 0) {
            answers("DROP", x, Scenes.DROP, 0, TAKEN);
            answers("DROPPED", x, Scenes.DROPPED, writer, TAKEN);
            answers("one DROPPED before the end", x, kind, writer, STALLS);
        }
        answers("DROP", x, Scenes.DROP, 1, TAKEN);
        answers("with the last DROPPED on its way", x, kind, writer, STALLS);
        answers("DROPPED", x, Scenes.DROPPED, writer, TAKEN);
        is("9: state 3", x.state(writer, A), 3);
        answers("in state 3", x, kind, writer, TAKEN);
    }

    private static void forwardIsTakenInStillAndLeavingStates(int kind) {
        int[] states = {2, 3, 10, 9};
        int[] afterRead = {1, 1, 11, 11};
        int[] afterWrite = {0, 0, 12, 12};
        for (int i = 0; i < states.length; i++) {
            SharerHome x = new SharerHome();
            x.load(0, A);
            x.run(64);
            if (i % 2 == 1) {
                x.store(0, A, 6);
            }
            asks(x, kind, 2);
            if (i > 1) {
                x.leave(0, A);
            }
            is("9: state", x.state(0, A), states[i]);
            answers("in state " + states[i], x, kind, 0, TAKEN);
            is("9: state then", x.state(0, A), kind == Scenes.FORWARD_READ ? afterRead[i] : afterWrite[i]);
        }
    }

    private static void dropStallsInState4Alone() {
        SharerHome x = new SharerHome();
        Scenes.share(x, A, 6, 3);
        x.load(3, A);
        answers("READ", x, Scenes.READ, HOME, TAKEN);
        x.store(1, A, 9);
        x.leave(2, A);
        x.store(0, A, 8);
        is("6: the WRITE of core 0 first", x.deliver(3), TAKEN);
        is("9: state 4", x.state(3, A), 4);
        answers("DROP in state 4", x, Scenes.DROP, 3, STALLS);
        is("9: state 7", x.state(1, A), 7);
        answers("DROP in state 7", x, Scenes.DROP, 1, TAKEN);
        is("9: state 5 then", x.state(1, A), 5);
        is("9: state 11", x.state(2, A), 11);
        answers("DROP in state 11", x, Scenes.DROP, 2, TAKEN);
        is("9: state 12 then", x.state(2, A), 12);
        answers("the data", x, Scenes.DATA, 3, TAKEN);
        is("9: state 1", x.state(3, A), 1);
        answers("DROP in state 1", x, Scenes.DROP, 3, TAKEN);
        is("9: state 0 then", x.state(3, A), 0);
    }

    private static void homeStallsInKeeping3Alone() {
        SharerHome x = new SharerHome();
        x.load(0, A);
        answers("READ in keeping 0", x, Scenes.READ, HOME, TAKEN);
        x.run(64);
        x.load(1, A);
        answers("READ in keeping 2", x, Scenes.READ, HOME, TAKEN);
        x.load(2, A);
        x.store(3, A, 5);
        answers("READ in keeping 3", x, Scenes.READ, HOME, STALLS);
        answers("WRITE in keeping 3", x, Scenes.WRITE, HOME, STALLS);
        answers("FORWARD_READ", x, Scenes.FORWARD_READ, 0, TAKEN);
        answers("READ in keeping 3, with DATA on its way", x, Scenes.READ, HOME, STALLS);
        answers("WRITE in keeping 3, with DATA on its way", x, Scenes.WRITE, HOME, STALLS);
        answers("DATA in keeping 3", x, Scenes.DATA, HOME, TAKEN);
        answers("READ in keeping 1", x, Scenes.READ, HOME, TAKEN);
        answers("WRITE in keeping 1", x, Scenes.WRITE, HOME, TAKEN);
        SharerHome y = new SharerHome();
        y.store(0, A, 5);
        answers("WRITE in keeping 0", y, Scenes.WRITE, HOME, TAKEN);
        y.store(1, A, 6);
        answers("WRITE in keeping 2", y, Scenes.WRITE, HOME, TAKEN);
    }

    private static void homeTakesEachLeaveInKeeping3() {
        for (int kind = Scenes.LEAVE_SHARED; kind <= Scenes.LEAVE_OWN; kind++) {
            SharerHome x = new SharerHome();
            x.load(0, A);
            x.run(64);
            if (kind == Scenes.LEAVE_OWN) {
                x.store(0, A, 6);
            }
            asks(x, Scenes.FORWARD_READ, 1);
            if (kind == Scenes.LEAVE_SHARED) {
                answers("FORWARD_READ", x, Scenes.FORWARD_READ, 0, TAKEN);
            }
            x.leave(0, A);
            is("12: keeping 3", x.home(A), 3 + 32 * 3);
            answers("in keeping 3", x, kind, HOME, TAKEN);
            is("12: keeping 3 without core 0", x.home(A), 3 + 32 * 2);
            is("13: the memory is as it was", x.memory(A), 0);
        }
    }

    private static void leftIsKeptBackByForward(int kind) {
        SharerHome x = new SharerHome();
        x.store(0, A, 6);
        x.run(64);
        x.leave(0, A);
        asks(x, kind, 2);
        answers("LEAVE_OWN", x, Scenes.LEAVE_OWN, HOME, TAKEN);
        answers("LEFT behind " + kind, x, Scenes.LEFT, 0, KEPT_BACK);
        answers("LEFT behind " + kind + " again", x, Scenes.LEFT, 0, KEPT_BACK);
        answers("the older one", x, kind, 0, TAKEN);
        is("9: leaving", x.state(0, A), kind == Scenes.FORWARD_READ ? 11 : 12);
        answers("LEFT then", x, Scenes.LEFT, 0, TAKEN);
        is("9: state 0", x.state(0, A), 0);
        x.run(64);
        is("15: the other one's operation is done", x.done(2), 1);
    }

    private static void leftIsKeptBackByDrop() {
        SharerHome x = new SharerHome();
        Scenes.share(x, A, 6, 2);
        x.leave(1, A);
        x.store(0, A, 7);
        answers("WRITE", x, Scenes.WRITE, HOME, TAKEN);
        answers("LEAVE_SHARED", x, Scenes.LEAVE_SHARED, HOME, TAKEN);
        answers("LEFT behind DROP", x, Scenes.LEFT, 1, KEPT_BACK);
        answers("DROP", x, Scenes.DROP, 1, TAKEN);
        answers("LEFT then", x, Scenes.LEFT, 1, TAKEN);
    }

    /** Kept back comes before stalls: the forwarded message would stall in states 7 and 5, but answers 0 in 7. */
    private static void forwardIsKeptBackByDrop(int kind) {
        SharerHome x = new SharerHome();
        Scenes.share(x, A, 6, 2);
        x.store(0, A, 7);
        answers("WRITE of core 0", x, Scenes.WRITE, HOME, TAKEN);
        x.store(1, A, 8);
        answers("WRITE of core 1", x, Scenes.WRITE, HOME, TAKEN);
        asks(x, kind, 3);
        is("9: state 7", x.state(1, A), 7);
        is("6: kept back behind DROP", x.deliver(placeFor(x, kind, 1, 3)), KEPT_BACK);
        answers("DROP", x, Scenes.DROP, 1, TAKEN);
        is("9: state 5", x.state(1, A), 5);
        is("6: not kept back, but stalls", x.deliver(placeFor(x, kind, 1, 3)), STALLS);
        x.run(64);
        is("16: the last one's result", x.result(3), kind == Scenes.FORWARD_READ ? 8 : 77);
    }

    /** The oldest message of a kind to a receiver for a requester, or how many wait if there is none. */
    private static int placeFor(SharerHome x, int kind, int receiver, int requester) {
        int count = x.message(-1, 0);
        for (int k = 0; k < count; k++) {
            if (x.message(k, 0) == kind && x.message(k, 3) == receiver && x.message(k, 4) == requester) {
                return k;
            }
        }
        return count;
    }

    private static void keptBackOnlyForTheSameLine() {
        SharerHome x = new SharerHome();
        x.store(0, A, 6);
        x.run(64);
        x.store(0, B, 7);
        x.run(64);
        asks(x, Scenes.FORWARD_WRITE, 2);
        x.leave(0, B);
        answers("LEAVE_OWN of line B", x, Scenes.LEAVE_OWN, HOME, TAKEN);
        is("7: FORWARD_WRITE of line A waits first", x.message(0, 1), A);
        is("7: LEFT of line B to the same core", x.message(1, 3), 0);
        answers("LEFT of line B", x, Scenes.LEFT, 0, TAKEN);
        is("9: line B has left", x.state(0, B), 0);
        is("9: line A is there", x.state(0, A), 3);
    }

    private static void keptBackOnlyForTheSameCore() {
        SharerHome x = new SharerHome();
        Scenes.share(x, A, 6, 4);
        x.store(0, A, 7);
        answers("WRITE", x, Scenes.WRITE, HOME, TAKEN);
        answers("DROP to 3 behind those to 1 and 2", x, Scenes.DROP, 3, TAKEN);
        answers("DROP to 2 behind that to 1", x, Scenes.DROP, 2, TAKEN);
        answers("DROP to 1", x, Scenes.DROP, 1, TAKEN);
    }

    /** DATA and DROPPED that were sent later than a forwarded message of the same line to the same core. */
    private static void otherKindsAreNotKeptBack() {
        SharerHome x = new SharerHome();
        x.store(0, A, 6);
        x.run(64);
        asks(x, Scenes.FORWARD_WRITE, 1);
        asks(x, Scenes.FORWARD_WRITE, 2);
        answers("FORWARD_WRITE to the owner", x, Scenes.FORWARD_WRITE, 0, TAKEN);
        is("7: FORWARD_WRITE to core 1", x.message(0, 0), Scenes.FORWARD_WRITE);
        is("7: DATA to core 1", x.message(1, 0), Scenes.DATA);
        answers("DATA behind FORWARD_WRITE", x, Scenes.DATA, 1, TAKEN);
        SharerHome y = new SharerHome();
        Scenes.share(y, A, 6, 2);
        y.store(3, A, 9);
        answers("WRITE", y, Scenes.WRITE, HOME, TAKEN);
        asks(y, Scenes.FORWARD_READ, 2);
        answers("DROP", y, Scenes.DROP, 0, TAKEN);
        is("7: DROPPED is the youngest", y.message(y.message(-1, 0) - 1, 0), Scenes.DROPPED);
        answers("DROPPED behind FORWARD_READ", y, Scenes.DROPPED, 3, TAKEN);
        is("11: it counts", y.due(3, A), -1);
    }

    private static void messagesToTheHomeAreNotKeptBack() {
        SharerHome x = new SharerHome();
        Scenes.share(x, A, 6, 4);
        x.leave(0, A);
        x.leave(1, A);
        x.store(2, A, 5);
        is("6: WRITE before two older ones", x.deliver(2), TAKEN);
        is("6: the second LEAVE_SHARED before the first", x.deliver(1), TAKEN);
        is("6: the first one", x.deliver(0), TAKEN);
    }

    private static void deliverCountsFromTheOldest() {
        SharerHome x = new SharerHome();
        for (int core = 0; core < 4; core++) {
            x.load(core, core);
        }
        is("6: deliver(4) of four", x.deliver(4), BAD);
        is("6: deliver(3), the youngest", x.deliver(3), TAKEN);
        is("7: its answer is the youngest then", x.message(3, 3), 3);
        is("6: deliver(0), the oldest", x.deliver(0), TAKEN);
        is("7: the next one is the oldest then", x.message(0, 2), 1);
        is("7: as many wait as before", x.message(-1, 0), 4);
        is("6: deliver(3), SOLE_DATA", x.deliver(3), TAKEN);
        is("7: one less waits", x.message(-1, 0), 3);
        is("6: deliver(3) is not there any more", x.deliver(3), BAD);
        x.run(64);
        is("6: deliver(0) when all are gone", x.deliver(0), BAD);
    }

    /** From allWriteAndLeave: four WRITE, DATA, 12 DROP, DROPPED, LEAVE_SHARED and LEFT each. */
    private static void runTakesAsManyAsThereAre() {
        int all = 4 + 4 + 4 * 12;
        int[] times = {1, 2, all - 1, all, all + 1, 63, 64};
        for (int n : times) {
            SharerHome x = Scenes.allWriteAndLeave();
            int most = Math.min(n, all);
            is("18: run(" + n + ") of " + all, x.run(n), most);
            is("18: run(64) after it", x.run(64), all - most);
            is("7: none is left", x.message(-1, 0), 0);
            is("18: run(64) of none", x.run(64), 0);
        }
    }

    private static void runGoesRoundWhatStalls() {
        SharerHome x = new SharerHome();
        x.store(0, A, 6);
        x.run(64);
        asks(x, Scenes.FORWARD_WRITE, 1);
        asks(x, Scenes.FORWARD_READ, 2);
        x.load(3, A);
        // FORWARD_WRITE to 0, FORWARD_READ to 1 that stalls, READ that stalls at the home.
        is("18: the oldest one", x.run(1), 1);
        is("7: FORWARD_READ is the oldest", x.message(0, 0), Scenes.FORWARD_READ);
        is("18: the third one, DATA to core 1", x.run(1), 1);
        is("9: core 1 has it", x.state(1, A), 3);
        is("18: FORWARD_READ then", x.run(1), 1);
        is("7: READ still stalls", x.message(0, 0), Scenes.READ);
        is("18: DATA to core 2, DATA to the home, READ, DATA", x.run(64), 4);
        is("12: three share", x.home(A), 1 + 32 * (2 + 4 + 8));
    }

    /** Each one behind DROP is kept back; the run takes what is younger, until DROP to that core is taken. */
    private static void runGoesRoundWhatIsKeptBack() {
        SharerHome x = new SharerHome();
        Scenes.share(x, A, 6, 2);
        x.load(2, A);
        x.deliver(0);
        x.store(0, A, 7);
        x.leave(1, A);
        x.deliver(1);
        x.deliver(1);
        x.deliver(0);
        x.leave(2, A);
        x.deliver(4);
        // DATA to 0, DROP to 1, DROP to 2, LEFT to 1, LEFT to 2.
        is("6: LEFT to core 1 is kept back", x.deliver(3), KEPT_BACK);
        is("6: LEFT to core 2 is kept back", x.deliver(4), KEPT_BACK);
        is("6: DROP to core 2 is taken", x.deliver(2), TAKEN);
        is("18: DATA", x.run(1), 1);
        is("18: DROP to core 1", x.run(1), 1);
        is("7: LEFT to core 1 is the oldest", x.message(0, 0), Scenes.LEFT);
        is("18: LEFT to core 1, LEFT to core 2, two DROPPED", x.run(64), 4);
        is("9: core 0 has it", x.state(0, A), 3);
    }

    /** What is taken may free an older message: that one is next, not the one behind what was taken. */
    private static void runLooksAgainFromTheOldest() {
        SharerHome x = new SharerHome();
        x.load(0, A);
        x.deliver(0);
        x.load(1, A);
        x.deliver(1);
        x.load(2, B);
        x.load(3, B);
        x.deliver(3);
        // SOLE_DATA to 0, FORWARD_READ to 0, READ of core 2, SOLE_DATA to 3.
        is("18: two of them", x.run(2), 2);
        is("7: READ of core 2 is the oldest", x.message(0, 4), 2);
        is("7: SOLE_DATA to core 3", x.message(1, 0), Scenes.SOLE_DATA);
        is("7: DATA to core 1", x.message(2, 3), 1);
        is("7: DATA to the home", x.message(3, 3), HOME);
        is("18: READ", x.run(1), 1);
        is("7: FORWARD_READ to core 3 is the youngest", x.message(3, 0), Scenes.FORWARD_READ);
        is("18: the rest", x.run(64), 6);
        SharerHome y = new SharerHome();
        y.store(0, A, 6);
        y.run(64);
        y.store(1, A, 7);
        y.store(2, A, 8);
        y.deliver(0);
        y.deliver(0);
        // FORWARD_WRITE to 0, FORWARD_WRITE to 1.
        y.deliver(0);
        y.load(3, B);
        // FORWARD_WRITE to 1 that stalls, DATA to 1, READ of line B.
        is("18: DATA, which frees the older one, and that one", y.run(2), 2);
        is("9: core 1 has given it up", y.state(1, A), 0);
        is("7: READ of line B still waits", y.message(0, 0), Scenes.READ);
    }
}
