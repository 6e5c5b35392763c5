/** Each promise by its number: ordinary inputs, the edges that the document names, and wrong inputs. */
public final class PromisesTest {

    private static final int BAD = SharerHome.BAD;
    private static final int BUSY = SharerHome.BUSY;
    private static final int COUNT = -1;
    private static final int[] WRONG = {-1, 4, 5, -2, Integer.MAX_VALUE, Integer.MIN_VALUE};

    private static final Check CHECK = new Check("PromisesTest");

    public static void main(String[] args) {
        newObject();
        load();
        loadIsBusy();
        store();
        storeIsBusy();
        add();
        leave();
        leaveIsBusy();
        leaveWhileWaiting();
        deliver();
        deliverKeepsBack();
        deliverStalls();
        deliverKeepsBackForwards();
        deliverKeepsNoOtherBack();
        keptBackOnlyOnItsLine();
        message();
        carried();
        state();
        value();
        due();
        home();
        memory();
        waits();
        done();
        result();
        tally();
        tallyOfOthersWork();
        run();
        runPassesOver();
        runIsLong();
        manyMessages();
        wrongCopies();
        CHECK.end();
    }

    private static void is(String call, long got, long want) {
        CHECK.due(call, got, want);
    }

    private static void unchanged(String call, SharerHome x, String before) {
        if (!Scenes.shown(x).equals(before)) {
            CHECK.fault(call + " changed something");
        }
    }

    /** All four cores have a line SHARED; its value is v, stored by core 0. */
    private static SharerHome allShare(int line, int v) {
        SharerHome x = new SharerHome();
        Scenes.share(x, line, v, 4);
        return x;
    }

    private static void newObject() {
        SharerHome x = new SharerHome();
        is("1: message(-1, 0)", x.message(COUNT, 0), 0);
        for (int line = 0; line < 4; line++) {
            is("1: home", x.home(line), 0);
            is("1: memory", x.memory(line), 0);
            for (int core = 0; core < 4; core++) {
                is("1: state", x.state(core, line), 0);
                is("1: value", x.value(core, line), 0);
                is("1: due", x.due(core, line), 0);
                is("1: tally", x.tally(core, line), 0);
            }
        }
        for (int core = 0; core < 4; core++) {
            CHECK.due("1: waits", x.waits(core), false);
            is("1: done", x.done(core), 0);
            is("1: result", x.result(core), 0);
        }
        SharerHome other = new SharerHome();
        other.store(1, 1, 9);
        other.run(64);
        is("1: another object's calls do not show", x.state(1, 1), 0);
    }

    private static void load() {
        SharerHome x = new SharerHome();
        is("2: load in state 0", x.load(2, 3), 0);
        is("2: state then", x.state(2, 3), 4);
        CHECK.due("2: it waits", x.waits(2), true);
        is("2: one message", x.message(COUNT, 0), 1);
        is("2: READ", x.message(0, 0), 0);
        is("2: its line", x.message(0, 1), 3);
        is("2: from the core", x.message(0, 2), 2);
        is("2: to the home", x.message(0, 3), 4);
        is("2: for the core", x.message(0, 4), 2);
        is("2: number", x.message(0, 5), 0);
        is("2: value", x.carried(0), 0);
        x.run(64);
        is("2: load in state 2", x.load(2, 3), 1);
        is("2: state 2 stays", x.state(2, 3), 2);
        is("2: done twice", x.done(2), 2);
        x.store(2, 3, 41);
        is("2: load in state 3", x.load(2, 3), 1);
        is("2: state 3 stays", x.state(2, 3), 3);
        is("2: result", x.result(2), 41);
        x.load(0, 3);
        x.run(64);
        is("2: load in state 1", x.load(2, 3), 1);
        is("2: state 1 stays", x.state(2, 3), 1);
        is("2: result in state 1", x.result(2), 41);
        is("2: nothing is sent", x.message(COUNT, 0), 0);
    }

    private static void loadIsBusy() {
        SharerHome x = allShare(0, 5);
        x.load(1, 1);
        String before = Scenes.shown(x);
        is("2: load of the line that it waits for", x.load(1, 1), BUSY);
        is("2: load of another line while it waits", x.load(1, 2), BUSY);
        is("2: load of a line that it has while it waits", x.load(1, 0), BUSY);
        is("2: BAD comes before BUSY", x.load(1, 4), BAD);
        unchanged("2: a load that is BUSY", x, before);
        x.leave(2, 0);
        is("2: load of a line that is leaving", x.load(2, 0), BUSY);
        is("2: load of another line while one is leaving", x.load(2, 1), 0);
    }

    private static void store() {
        SharerHome x = new SharerHome();
        is("3: store in state 0", x.store(3, 1, -8), 0);
        is("3: state then", x.state(3, 1), 5);
        CHECK.due("3: it waits", x.waits(3), true);
        is("3: WRITE", x.message(0, 0), 1);
        is("3: its line", x.message(0, 1), 1);
        is("3: from the core", x.message(0, 2), 3);
        is("3: to the home", x.message(0, 3), 4);
        is("3: for the core", x.message(0, 4), 3);
        is("3: number", x.message(0, 5), 0);
        is("3: v is not sent", x.carried(0), 0);
        is("3: no result before it is done", x.result(3), 0);
        x.run(64);
        is("3: state 3", x.state(3, 1), 3);
        is("3: value", x.value(3, 1), -8);
        is("3: result", x.result(3), -8);
        is("3: store in state 3", x.store(3, 1, 6), 1);
        is("3: value then", x.value(3, 1), 6);
        is("3: result then", x.result(3), 6);
        is("3: memory is not written", x.memory(1), 0);
        x.load(0, 0);
        x.run(64);
        is("3: store in state 2", x.store(0, 0, 12), 1);
        is("3: state 2 becomes 3", x.state(0, 0), 3);
        SharerHome y = allShare(2, 10);
        is("3: store in state 1", y.store(1, 2, 11), 0);
        is("3: state 7 then", y.state(1, 2), 7);
        is("3: the old value stands", y.value(1, 2), 10);
        y.run(64);
        is("3: value at the end", y.value(1, 2), 11);
    }

    private static void storeIsBusy() {
        SharerHome x = new SharerHome();
        x.store(0, 0, 1);
        x.run(64);
        x.load(0, 1);
        String before = Scenes.shown(x);
        is("3: store to a line that it owns while it waits", x.store(0, 0, 2), BUSY);
        is("3: store to the line that it waits for", x.store(0, 1, 2), BUSY);
        is("3: BAD comes before BUSY", x.store(0, -1, 2), BAD);
        is("4: add to a line that it owns while it waits", x.add(0, 0, 2), BUSY);
        is("4: BAD comes before BUSY", x.add(0, 4, 2), BAD);
        unchanged("3: a store that is BUSY", x, before);
        x.run(64);
        is("3: the load was not spoilt", x.result(0), 0);
        x.leave(0, 0);
        is("3: store to a line that is leaving", x.store(0, 0, 3), BUSY);
        is("4: add to a line that is leaving", x.add(0, 0, 3), BUSY);
    }

    private static void add() {
        SharerHome x = new SharerHome();
        is("4: add in state 0", x.add(0, 0, 5), 0);
        is("4: state then", x.state(0, 0), 5);
        is("4: WRITE", x.message(0, 0), 1);
        x.run(64);
        is("4: it read", x.result(0), 0);
        is("4: it made", x.value(0, 0), 5);
        is("4: add in state 3", x.add(0, 0, -7), 1);
        is("4: it read then", x.result(0), 5);
        is("4: it made then", x.value(0, 0), -2);
        x.load(1, 1);
        x.run(64);
        is("4: add in state 2", x.add(1, 1, 3), 1);
        is("4: state 2 becomes 3", x.state(1, 1), 3);
        is("4: value", x.value(1, 1), 3);
        x.store(1, 1, Integer.MIN_VALUE);
        is("4: add that wraps", x.add(1, 1, -1), 1);
        is("4: result before the wrap", x.result(1), Integer.MIN_VALUE);
        is("4: value after the wrap", x.value(1, 1), Integer.MAX_VALUE);
        SharerHome y = allShare(3, 100);
        is("4: add in state 1", y.add(2, 3, 1), 0);
        is("4: state 7 then", y.state(2, 3), 7);
        is("4: another adds too", y.add(3, 3, 10), 0);
        y.run(64);
        is("4: the first one read", y.result(2), 100);
        is("4: the other one read", y.result(3), 101);
        is("4: both are in the value", y.value(3, 3), 111);
    }

    private static void leave() {
        SharerHome x = new SharerHome();
        is("5: leave in state 0", x.leave(0, 0), 0);
        is("5: nothing is sent", x.message(COUNT, 0), 0);
        is("5: no tally", x.tally(0, 0), 0);
        x.load(0, 0);
        x.run(64);
        is("5: leave in state 2", x.leave(0, 0), 1);
        is("5: state 10", x.state(0, 0), 10);
        is("5: LEAVE_SOLE", x.message(0, 0), 3);
        is("5: without a value", x.carried(0), 0);
        x.store(1, 1, 77);
        x.run(64);
        is("5: leave in state 3", x.leave(1, 1), 1);
        is("5: state 9", x.state(1, 1), 9);
        is("5: LEAVE_OWN", x.message(0, 0), 4);
        is("5: its line", x.message(0, 1), 1);
        is("5: from the core", x.message(0, 2), 1);
        is("5: to the home", x.message(0, 3), 4);
        is("5: for the core", x.message(0, 4), 1);
        is("5: number", x.message(0, 5), 0);
        is("5: with its value", x.carried(0), 77);
        x.run(64);
        is("5: memory", x.memory(1), 77);
        is("5: nobody has it", x.home(1), 0);
        SharerHome y = allShare(2, 9);
        is("5: leave in state 1", y.leave(3, 2), 1);
        is("5: state 11", y.state(3, 2), 11);
        is("5: LEAVE_SHARED", y.message(0, 0), 2);
        is("5: without a value then", y.carried(0), 0);
        CHECK.due("5: the core does not wait", y.waits(3), false);
        is("5: it is no operation", y.done(3), 1);
    }

    private static void leaveIsBusy() {
        SharerHome x = allShare(0, 4);
        x.leave(1, 0);
        String before = Scenes.shown(x);
        is("5: leave in state 11", x.leave(1, 0), BUSY);
        unchanged("5: a leave that is BUSY", x, before);
        x.store(2, 0, 5);
        is("5: leave in state 7", x.leave(2, 0), BUSY);
        x.load(3, 1);
        is("5: leave in state 4", x.leave(3, 1), BUSY);
        x.store(1, 2, 5);
        is("5: leave in state 5", x.leave(1, 2), BUSY);
        SharerHome y = new SharerHome();
        y.load(0, 0);
        y.run(64);
        y.leave(0, 0);
        is("5: leave in state 10", y.leave(0, 0), BUSY);
        y.store(1, 1, 1);
        y.run(64);
        y.leave(1, 1);
        is("5: leave in state 9", y.leave(1, 1), BUSY);
        is("5: BAD comes before BUSY", y.leave(1, 4), BAD);
    }

    private static void leaveWhileWaiting() {
        SharerHome x = allShare(0, 4);
        x.store(1, 1, 6);
        is("5: a core that waits leaves another line", x.leave(1, 0), 1);
        is("5: a core that waits leaves a line that it hasn't", x.leave(1, 2), 0);
        is("5: but not the line that it waits for", x.leave(1, 1), BUSY);
        x.run(64);
        is("5: the operation is done", x.result(1), 6);
        is("5: the copy has left", x.state(1, 0), 0);
    }

    private static void deliver() {
        SharerHome x = new SharerHome();
        for (int k : WRONG) {
            is("6: deliver(" + k + ") with no message", x.deliver(k), BAD);
        }
        is("6: deliver(0) with no message", x.deliver(0), BAD);
        x.load(0, 0);
        x.load(1, 1);
        x.load(2, 2);
        for (int k : WRONG) {
            is("6: deliver(" + k + ") with three messages", x.deliver(k), BAD);
        }
        is("6: deliver(3) with three messages", x.deliver(3), BAD);
        is("6: deliver(1)", x.deliver(1), 2);
        is("6: still three wait", x.message(COUNT, 0), 3);
        is("6: the oldest stays", x.message(0, 4), 0);
        is("6: the younger one moves up", x.message(1, 4), 2);
        is("6: the new one is the youngest", x.message(2, 0), 10);
        is("6: deliver(2)", x.deliver(2), 2);
        is("6: two wait", x.message(COUNT, 0), 2);
        is("6: it was taken", x.state(1, 1), 2);
    }

    private static void deliverKeepsBack() {
        SharerHome x = allShare(1, 8);
        x.leave(2, 1);
        x.store(0, 1, 3);
        is("6: WRITE before LEAVE_SHARED", x.deliver(1), 2);
        is("6: LEAVE_SHARED", x.deliver(0), 2);
        // DATA to 0, DROP to 1, 2 and 3, LEFT to 2.
        is("6: five wait", x.message(COUNT, 0), 5);
        is("6: the last one is LEFT", x.message(4, 0), 8);
        String before = Scenes.shown(x);
        is("6: LEFT is kept back by DROP", x.deliver(4), 0);
        unchanged("6: a message that is kept back", x, before);
        is("6: DROP to another core is free", x.deliver(3), 2);
        is("6: DROP to the core", x.deliver(2), 2);
        is("6: state 12", x.state(2, 1), 12);
        is("6: LEFT is free then", x.deliver(2), 2);
        is("6: state 0", x.state(2, 1), 0);
    }

    private static void deliverStalls() {
        SharerHome x = new SharerHome();
        x.load(0, 0);
        x.deliver(0);
        x.load(1, 0);
        x.deliver(1);
        is("6: FORWARD_READ is the second one", x.message(1, 0), 5);
        String before = Scenes.shown(x);
        is("6: it stalls before the data came", x.deliver(1), 1);
        unchanged("6: a message that stalls", x, before);
        is("6: the data came", x.deliver(0), 2);
        is("6: it doesn't stall then", x.deliver(0), 2);
    }

    private static void deliverKeepsBackForwards() {
        SharerHome x = new SharerHome();
        x.store(0, 0, 5);
        x.run(64);
        x.load(1, 0);
        x.run(64);
        x.store(0, 0, 6);
        x.store(1, 0, 7);
        x.load(2, 0);
        is("6: WRITE of core 1", x.deliver(1), 2);
        is("6: WRITE of core 0", x.deliver(0), 2);
        is("6: READ of core 2", x.deliver(0), 2);
        // DATA to 1, DROP to 0, FORWARD_WRITE to 1, FORWARD_READ to 0.
        is("6: DROP to core 0", x.message(1, 0), 7);
        is("6: FORWARD_READ to core 0", x.message(3, 0), 5);
        is("6: FORWARD_READ is kept back by DROP, before it could stall", x.deliver(3), 0);
        is("6: FORWARD_WRITE to another core is not, it stalls", x.deliver(2), 1);
        is("6: DROP", x.deliver(1), 2);
        is("6: FORWARD_READ stalls then", x.deliver(2), 1);
        x.run(64);
        is("6: core 2 has read", x.result(2), 6);
    }

    private static void deliverKeepsNoOtherBack() {
        SharerHome x = new SharerHome();
        x.store(0, 0, 5);
        x.store(1, 1, 5);
        x.run(64);
        x.load(2, 0);
        x.deliver(0);
        x.leave(0, 0);
        x.deliver(1);
        is("6: LEFT is kept back by FORWARD_READ", x.deliver(1), 0);
        x.leave(1, 1);
        x.deliver(2);
        is("6: LEFT of another line to another core is not", x.deliver(2), 2);
        SharerHome y = new SharerHome();
        y.store(0, 0, 5);
        y.run(64);
        y.store(1, 0, 6);
        y.deliver(0);
        y.leave(0, 0);
        y.deliver(0);
        y.deliver(1);
        y.leave(1, 0);
        is("6: LEAVE_OWN of core 0", y.message(0, 0), 4);
        is("6: LEAVE_OWN of core 1", y.message(1, 0), 4);
        is("6: the home takes the younger one first", y.deliver(1), 2);
        is("6: memory", y.memory(0), 6);
        is("6: and the older one", y.deliver(0), 2);
        is("6: memory stays", y.memory(0), 6);
    }

    private static void keptBackOnlyOnItsLine() {
        SharerHome x = new SharerHome();
        x.store(0, 0, 5);
        x.store(1, 1, 6);
        x.run(64);
        x.store(0, 1, 7);
        x.run(64);
        x.load(1, 0);
        x.load(2, 1);
        x.deliver(0);
        x.deliver(0);
        is("6: FORWARD_READ of line 0 to core 0", x.message(0, 1), 0);
        is("6: FORWARD_READ of line 1 to core 0", x.message(1, 1), 1);
        is("6: to the same core", x.message(1, 3), 0);
        is("6: another line's message keeps nothing back", x.deliver(1), 2);
    }

    private static void message() {
        SharerHome x = new SharerHome();
        for (int what : WRONG) {
            is("7: message(-1, " + what + ")", x.message(COUNT, what), 0);
        }
        is("7: message(0, 0) with no message", x.message(0, 0), BAD);
        Scenes.share(x, 3, 21, 4);
        x.store(2, 3, 22);
        x.deliver(0);
        is("7: DATA and three DROP", x.message(COUNT, 3), 4);
        int[][] rows = {{9, 3, 4, 2, 2, 3}, {7, 3, 4, 0, 2, 0}, {7, 3, 4, 1, 2, 0}, {7, 3, 4, 3, 2, 0}};
        for (int k = 0; k < 4; k++) {
            for (int what = 0; what < 6; what++) {
                is("7: message(" + k + ", " + what + ")", x.message(k, what), rows[k][what]);
            }
            is("7: message(" + k + ", -1)", x.message(k, -1), BAD);
            is("7: message(" + k + ", 6)", x.message(k, 6), BAD);
            is("7: message(" + k + ", max)", x.message(k, Integer.MAX_VALUE), BAD);
        }
        is("7: message(4, 0)", x.message(4, 0), BAD);
        is("7: message(-2, 0)", x.message(-2, 0), BAD);
        is("7: message(min, 0)", x.message(Integer.MIN_VALUE, 0), BAD);
        is("7: message(-1, 6)", x.message(COUNT, 6), 4);
    }

    private static void carried() {
        SharerHome x = allShare(0, 31);
        is("8: carried(0) with no message", x.carried(0), 0);
        is("8: carried(-1) with no message", x.carried(-1), 0);
        x.store(1, 0, 32);
        is("8: WRITE", x.carried(0), 0);
        x.deliver(0);
        is("8: DATA", x.carried(0), 31);
        is("8: DROP", x.carried(1), 0);
        is("8: beyond the youngest", x.carried(4), 0);
        is("8: carried(-1)", x.carried(-1), 0);
        is("8: carried(max)", x.carried(Integer.MAX_VALUE), 0);
        x.deliver(1);
        is("8: DROPPED", x.message(3, 0), 11);
        is("8: DROPPED carries nothing", x.carried(3), 0);
        x.run(64);
        x.leave(1, 0);
        is("8: LEAVE_OWN", x.carried(0), 32);
        x.run(64);
        x.load(3, 0);
        x.deliver(0);
        is("8: SOLE_DATA", x.message(0, 0), 10);
        is("8: SOLE_DATA carries the memory", x.carried(0), 32);
    }

    private static void state() {
        SharerHome x = new SharerHome();
        x.load(1, 2);
        for (int core = 0; core < 4; core++) {
            for (int line = 0; line < 4; line++) {
                is("9: state(" + core + ", " + line + ")", x.state(core, line), core == 1 && line == 2 ? 4 : 0);
            }
        }
    }

    private static void value() {
        SharerHome x = allShare(0, 50);
        is("10: in state 1", x.value(3, 0), 50);
        x.store(3, 0, 60);
        is("10: in state 7", x.value(3, 0), 50);
        x.deliver(0);
        x.deliver(0);
        is("10: state 8", x.state(3, 0), 8);
        is("10: in state 8", x.value(3, 0), 50);
        x.run(64);
        is("10: in state 3", x.value(3, 0), 60);
        is("10: in state 0, after DROP", x.value(0, 0), 0);
        x.leave(3, 0);
        is("10: in state 9", x.value(3, 0), 60);
        x.run(64);
        is("10: in state 0, after LEFT", x.value(3, 0), 0);
        x.load(1, 0);
        is("10: in state 4", x.value(1, 0), 0);
        x.run(64);
        is("10: in state 2", x.value(1, 0), 60);
        x.leave(1, 0);
        is("10: in state 10", x.value(1, 0), 60);
        x.load(2, 0);
        x.deliver(1);
        x.deliver(1);
        is("10: state 11", x.state(1, 0), 11);
        is("10: in state 11", x.value(1, 0), 60);
        valueWhileWriting();
    }

    private static void valueWhileWriting() {
        SharerHome x = allShare(0, 50);
        x.leave(0, 0);
        x.store(1, 0, 51);
        x.deliver(1);
        x.deliver(2);
        is("10: state 12", x.state(0, 0), 12);
        is("10: in state 12", x.value(0, 0), 0);
        SharerHome y = allShare(0, 70);
        y.store(1, 0, 71);
        y.store(2, 0, 72);
        y.deliver(0);
        y.deliver(3);
        is("10: state 5, from 7", y.state(2, 0), 5);
        is("10: in state 5", y.value(2, 0), 0);
        SharerHome z = allShare(0, 80);
        z.leave(3, 0);
        z.run(64);
        z.store(3, 0, 81);
        is("10: in state 5, from 0", z.value(3, 0), 0);
        z.deliver(0);
        z.deliver(0);
        is("10: state 6", z.state(3, 0), 6);
        is("10: in state 6", z.value(3, 0), 80);
    }

    private static void due() {
        SharerHome x = allShare(2, 1);
        x.store(0, 2, 2);
        is("11: in state 7, none taken", x.due(0, 2), 0);
        x.deliver(0);
        x.deliver(1);
        x.deliver(3);
        is("11: in state 7, one taken", x.due(0, 2), -1);
        x.deliver(1);
        x.deliver(2);
        is("11: in state 7, two taken", x.due(0, 2), -2);
        is("11: state 7", x.state(0, 2), 7);
        x.deliver(0);
        is("11: state 8", x.state(0, 2), 8);
        is("11: in state 8, one to come", x.due(0, 2), 1);
        x.run(64);
        is("11: in state 3", x.due(0, 2), 0);
        is("11: in state 0", x.due(1, 2), 0);
        dueBeforeData();
        dueFromNone();
    }

    private static void dueBeforeData() {
        SharerHome x = allShare(0, 1);
        x.store(3, 0, 5);
        x.deliver(0);
        x.deliver(1);
        x.deliver(1);
        x.deliver(1);
        is("11: three DROPPED wait", x.message(COUNT, 0), 4);
        x.deliver(1);
        x.deliver(1);
        x.deliver(1);
        is("11: all taken before DATA", x.due(3, 0), -3);
        CHECK.due("11: it still waits", x.waits(3), true);
        x.deliver(0);
        is("11: DATA makes it OWN", x.state(3, 0), 3);
        is("11: nothing is due", x.due(3, 0), 0);
        x.load(1, 0);
        is("11: in state 4", x.due(1, 0), 0);
        x.run(64);
        x.store(3, 0, 6);
        is("11: a new request counts from 0", x.due(3, 0), 0);
        x.deliver(0);
        x.deliver(0);
        is("11: one to come", x.due(3, 0), 1);
    }

    private static void dueFromNone() {
        SharerHome x = allShare(0, 1);
        x.leave(3, 0);
        x.run(64);
        x.store(3, 0, 5);
        is("11: in state 5, none taken", x.due(3, 0), 0);
        x.deliver(0);
        x.deliver(2);
        x.deliver(3);
        is("11: in state 5, one taken", x.due(3, 0), -1);
        x.deliver(0);
        is("11: state 6", x.state(3, 0), 6);
        is("11: in state 6", x.due(3, 0), 2);
        x.deliver(0);
        x.deliver(1);
        is("11: in state 6, one to come", x.due(3, 0), 1);
    }

    private static void home() {
        SharerHome x = new SharerHome();
        x.load(3, 1);
        x.run(64);
        is("12: owned by 3", x.home(1), 2 + 4 * 4);
        is("12: other lines", x.home(0), 0);
        x.load(0, 1);
        x.deliver(0);
        is("12: it waits for data", x.home(1), 3 + 32 * 9);
        x.run(64);
        is("12: shared", x.home(1), 1 + 32 * 9);
        x.store(2, 1, 1);
        x.deliver(0);
        is("12: owned by 2, no sharers", x.home(1), 2 + 4 * 3);
        x.run(64);
        x.leave(2, 1);
        x.run(64);
        is("12: nobody", x.home(1), 0);
        for (int line : WRONG) {
            is("12: home(" + line + ")", x.home(line), BAD);
        }
    }

    private static void memory() {
        SharerHome x = new SharerHome();
        x.store(0, 0, 3);
        x.store(1, 3, -9);
        x.run(64);
        is("13: not yet", x.memory(0), 0);
        x.load(2, 0);
        x.run(64);
        x.leave(1, 3);
        x.run(64);
        is("13: by DATA", x.memory(0), 3);
        is("13: by LEAVE_OWN", x.memory(3), -9);
        is("13: others", x.memory(1), 0);
        for (int line : WRONG) {
            is("13: memory(" + line + ")", x.memory(line), 0);
        }
    }

    private static void waits() {
        SharerHome x = new SharerHome();
        x.load(0, 0);
        x.store(1, 1, 1);
        x.add(2, 2, 1);
        for (int core = 0; core < 3; core++) {
            CHECK.due("14: waits(" + core + ")", x.waits(core), true);
        }
        CHECK.due("14: waits(3)", x.waits(3), false);
        x.run(64);
        for (int core = 0; core < 3; core++) {
            CHECK.due("14: waits(" + core + ") at the end", x.waits(core), false);
        }
        for (int core : WRONG) {
            CHECK.due("14: waits(" + core + ")", x.waits(core), false);
        }
    }

    private static void done() {
        SharerHome x = new SharerHome();
        x.add(2, 0, 1);
        is("15: not yet", x.done(2), 0);
        x.run(64);
        is("15: one", x.done(2), 1);
        x.load(2, 0);
        x.store(2, 0, 2);
        x.add(2, 0, 2);
        is("15: four", x.done(2), 4);
        x.leave(2, 0);
        x.load(2, 0);
        is("15: leave and BUSY do not count", x.done(2), 4);
        is("15: others", x.done(0), 0);
        for (int core : WRONG) {
            is("15: done(" + core + ")", x.done(core), BAD);
        }
    }

    private static void result() {
        SharerHome x = new SharerHome();
        x.store(1, 0, 15);
        is("16: none yet", x.result(1), 0);
        x.run(64);
        is("16: of the store", x.result(1), 15);
        x.add(1, 0, 5);
        is("16: of the addition", x.result(1), 15);
        x.load(1, 0);
        is("16: of the load", x.result(1), 20);
        x.load(1, 1);
        is("16: the latest that is done", x.result(1), 20);
        x.run(64);
        is("16: of the new load", x.result(1), 0);
        is("16: others", x.result(0), 0);
        for (int core : WRONG) {
            is("16: result(" + core + ")", x.result(core), 0);
        }
    }

    private static void tally() {
        SharerHome x = new SharerHome();
        x.load(0, 0);
        is("17: READ", x.tally(0, 0), 1);
        x.deliver(0);
        is("17: SOLE_DATA", x.tally(0, 0), 2);
        x.deliver(0);
        is("17: taking does not count", x.tally(0, 0), 2);
        x.store(0, 0, 1);
        is("17: nothing is sent", x.tally(0, 0), 2);
        x.leave(0, 0);
        is("17: LEAVE_OWN begins anew", x.tally(0, 0), 1);
        x.deliver(0);
        is("17: LEFT", x.tally(0, 0), 2);
        x.deliver(0);
        x.leave(0, 0);
        is("17: a leave in state 0", x.tally(0, 0), 2);
        is("17: another line", x.tally(0, 1), 0);
        is("17: another core", x.tally(1, 0), 0);
        Scenes.share(x, 1, 5, 4);
        is("17: READ, FORWARD_READ, DATA, DATA", x.tally(1, 1), 4);
        is("17: READ, DATA", x.tally(3, 1), 2);
        x.store(3, 1, 6);
        x.run(64);
        is("17: WRITE, DATA, three DROP, three DROPPED", x.tally(3, 1), 8);
        is("17: DROP is not counted for who drops", x.tally(1, 1), 4);
        x.add(2, 1, 1);
        x.run(64);
        is("17: WRITE, FORWARD_WRITE, DATA", x.tally(2, 1), 3);
    }

    private static void tallyOfOthersWork() {
        SharerHome x = new SharerHome();
        x.load(0, 0);
        x.run(64);
        x.load(1, 0);
        x.run(2);
        // DATA to core 1 and DATA to the home wait; core 1 leaves before the home has its own.
        x.deliver(0);
        x.leave(1, 0);
        is("17: LEAVE_SHARED begins anew, with DATA on its way", x.tally(1, 0), 1);
        x.deliver(0);
        is("17: a message of before does not count", x.tally(1, 0), 1);
        x.deliver(0);
        is("17: LEFT does", x.tally(1, 0), 2);
    }

    private static void run() {
        SharerHome x = new SharerHome();
        is("18: run(1) with no message", x.run(1), 0);
        x.load(0, 0);
        x.load(1, 1);
        String before = Scenes.shown(x);
        is("18: run(0)", x.run(0), 0);
        is("18: run(-1)", x.run(-1), 0);
        is("18: run(65)", x.run(65), 0);
        is("18: run(max)", x.run(Integer.MAX_VALUE), 0);
        is("18: run(min)", x.run(Integer.MIN_VALUE), 0);
        unchanged("18: a run of 0 times", x, before);
        is("18: run(1)", x.run(1), 1);
        is("18: the oldest one was taken", x.message(0, 4), 1);
        is("18: its answer is the youngest", x.message(1, 0), 10);
        is("18: run(2)", x.run(2), 2);
        is("18: core 0 has its data", x.state(0, 0), 2);
        is("18: core 1 not yet", x.state(1, 1), 4);
        is("18: run(64)", x.run(64), 1);
        is("18: run(64) again", x.run(64), 0);
    }

    private static void runPassesOver() {
        SharerHome x = new SharerHome();
        x.store(0, 0, 1);
        x.run(64);
        x.load(1, 0);
        x.deliver(0);
        x.load(2, 0);
        x.load(3, 0);
        // FORWARD_READ to 0, then two READ that stall at the home.
        is("18: FORWARD_READ", x.run(1), 1);
        is("18: READ stalls, DATA to core 1", x.run(1), 1);
        is("18: core 1 has read", x.result(1), 1);
        is("18: the two READ wait", x.message(1, 0), 0);
        is("18: DATA to the home", x.run(1), 1);
        is("18: the memory", x.memory(0), 1);
        is("18: READ of core 2 then", x.run(1), 1);
        is("18: READ of core 3 is the oldest", x.message(0, 4), 3);
        SharerHome y = new SharerHome();
        y.load(0, 0);
        y.deliver(0);
        y.store(1, 0, 1);
        y.deliver(1);
        y.deliver(0);
        y.leave(0, 0);
        y.deliver(1);
        // FORWARD_WRITE to 0 and LEFT to 0, which is kept back until the other one is gone.
        is("18: two wait", y.message(COUNT, 0), 2);
        is("18: LEFT is kept back", y.deliver(1), 0);
        is("18: all three", y.run(64), 3);
        is("18: core 0 has left", y.state(0, 0), 0);
        is("18: core 1 owns it", y.state(1, 0), 3);
    }

    private static void runIsLong() {
        SharerHome x = fourLinesBusy();
        int all = 4 * 4 + 4 * 3 + 12 + 12;
        is("18: run(64) takes all", x.run(64), all);
        is("18: no message is left", x.message(COUNT, 0), 0);
        SharerHome y = fourLinesBusy();
        is("18: run(40) takes 40", y.run(40), 40);
        is("18: the rest", y.run(64), all - 40);
    }

    /** All lines are shared by all, core c writes line c, all others leave: WRITE is taken first, so 28 messages wait. */
    private static SharerHome fourLinesBusy() {
        SharerHome x = new SharerHome();
        for (int line = 0; line < 4; line++) {
            Scenes.share(x, line, line + 1, 4);
        }
        for (int core = 0; core < 4; core++) {
            x.store(core, core, 10 + core);
        }
        for (int core = 0; core < 4; core++) {
            for (int line = 0; line < 4; line++) {
                is("5: leave", x.leave(core, line), core == line ? BUSY : 1);
            }
        }
        is("7: WRITE and LEAVE_SHARED", x.message(COUNT, 0), 16);
        for (int core = 0; core < 4; core++) {
            is("6: WRITE", x.deliver(0), 2);
        }
        is("7: the most that can wait", x.message(COUNT, 0), 28);
        return x;
    }

    private static void manyMessages() {
        SharerHome x = fourLinesBusy();
        is("7: the youngest", x.message(27, 0), 7);
        is("7: to core 2", x.message(27, 3), 2);
        is("7: beyond it", x.message(28, 0), BAD);
        x.run(64);
        for (int core = 0; core < 4; core++) {
            for (int line = 0; line < 4; line++) {
                is("9: state", x.state(core, line), core == line ? 3 : 0);
            }
            is("16: result", x.result(core), 10 + core);
            is("12: home", x.home(core), 2 + 4 * (core + 1));
        }
    }

    private static void wrongCopies() {
        SharerHome x = allShare(0, 1);
        String before = Scenes.shown(x);
        for (int wrong : WRONG) {
            for (int right = 0; right < 4; right++) {
                wrongCopy(x, wrong, right);
                wrongCopy(x, right, wrong);
            }
            wrongCopy(x, wrong, wrong);
        }
        unchanged("calls with wrong numbers", x, before);
    }

    private static void wrongCopy(SharerHome x, int core, int line) {
        String copy = "(" + core + ", " + line + ")";
        is("2: load" + copy, x.load(core, line), BAD);
        is("3: store" + copy, x.store(core, line, 1), BAD);
        is("4: add" + copy, x.add(core, line, 1), BAD);
        is("5: leave" + copy, x.leave(core, line), BAD);
        is("9: state" + copy, x.state(core, line), BAD);
        is("10: value" + copy, x.value(core, line), 0);
        is("11: due" + copy, x.due(core, line), BAD);
        is("17: tally" + copy, x.tally(core, line), BAD);
    }
}
