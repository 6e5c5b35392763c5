/** Each row of the document's two tables: what a core and what the home does when it takes a message. */
public final class TablesTest {

    private static final int HOME = Scenes.HOME;
    private static final int READ = Scenes.READ;
    private static final int WRITE = Scenes.WRITE;
    private static final int LEAVE_SHARED = Scenes.LEAVE_SHARED;
    private static final int LEAVE_SOLE = Scenes.LEAVE_SOLE;
    private static final int LEAVE_OWN = Scenes.LEAVE_OWN;
    private static final int FORWARD_READ = Scenes.FORWARD_READ;
    private static final int FORWARD_WRITE = Scenes.FORWARD_WRITE;
    private static final int DROP = Scenes.DROP;
    private static final int LEFT = Scenes.LEFT;
    private static final int DATA = Scenes.DATA;
    private static final int SOLE_DATA = Scenes.SOLE_DATA;
    private static final int DROPPED = Scenes.DROPPED;

    private static final int A = 2;
    private static final Check CHECK = new Check("TablesTest");

    public static void main(String[] args) {
        forwardReadToOwner(false, false);
        forwardReadToOwner(false, true);
        forwardReadToOwner(true, false);
        forwardReadToOwner(true, true);
        forwardWriteToOwner(false, false);
        forwardWriteToOwner(false, true);
        forwardWriteToOwner(true, false);
        forwardWriteToOwner(true, true);
        for (int owner = 0; owner < 4; owner++) {
            dataComesFromTheOwner(owner);
        }
        forwardStallsWhileReading(FORWARD_READ);
        forwardStallsWhileReading(FORWARD_WRITE);
        forwardStallsWhileWriting(FORWARD_READ, true);
        forwardStallsWhileWriting(FORWARD_READ, false);
        forwardStallsWhileWriting(FORWARD_WRITE, true);
        forwardStallsWhileWriting(FORWARD_WRITE, false);
        dropInShared();
        dropWhileWriting();
        dropWhileLeaving();
        dropWhileReading();
        dataToRead();
        dataAfterForwardedWrite();
        homeTakesRead();
        homeTakesWriteFromNobody();
        homeTakesWriteFromSharer();
        homeTakesWriteFromOther();
        homeTakesWriteWhenOwned();
        homeStalls();
        homeTakesLeaveOfOwner();
        homeTakesLeaveOfSharers();
        homeTakesLeaveOfFormerOwner();
        homeTakesLeaveWhileItWaits();
        homeTakesDataWithNoSharers();
        CHECK.end();
    }

    private static void is(String call, long got, long want) {
        CHECK.due(call, got, want);
    }

    private static void takes(SharerHome x, int kind, int receiver) {
        is(receiver + " takes kind " + kind, x.deliver(Scenes.place(x, kind, receiver)), 2);
    }

    private static void stalls(SharerHome x, int kind, int receiver) {
        int before = x.message(-1, 0);
        is(receiver + " stalls with kind " + kind, x.deliver(Scenes.place(x, kind, receiver)), 1);
        is("it stays", x.message(-1, 0), before);
    }

    /** The k-th waiting message has this kind, sender, receiver, requester, number and value, and is for line A. */
    private static void sent(SharerHome x, int k, int... row) {
        int[] parts = {0, 2, 3, 4, 5};
        for (int i = 0; i < parts.length; i++) {
            is("message(" + k + ", " + parts[i] + ")", x.message(k, parts[i]), row[i]);
        }
        is("message(" + k + ", 1)", x.message(k, 1), A);
        is("carried(" + k + ")", x.carried(k), row[5]);
    }

    /** Core 0 has line A alone, with memory 5: SOLE with 5, or OWN with 6. */
    private static SharerHome alone(boolean own) {
        SharerHome x = new SharerHome();
        x.store(3, A, 5);
        x.run(64);
        x.leave(3, A);
        x.run(64);
        x.load(0, A);
        x.run(64);
        if (own) {
            x.store(0, A, 6);
        }
        return x;
    }

    /** Cores 0 .. many - 1 have line A SHARED, with 6. */
    private static SharerHome shared(int many) {
        SharerHome x = alone(true);
        for (int core = 1; core < many; core++) {
            x.load(core, A);
            x.run(64);
        }
        return x;
    }

    private static void forwardReadToOwner(boolean own, boolean leaving) {
        SharerHome x = alone(own);
        int v = own ? 6 : 5;
        x.load(1, A);
        takes(x, READ, HOME);
        sent(x, 0, FORWARD_READ, HOME, 0, 1, 0, 0);
        if (leaving) {
            x.leave(0, A);
            is("leaving", x.state(0, A), own ? 9 : 10);
        }
        takes(x, FORWARD_READ, 0);
        is("state after FORWARD_READ", x.state(0, A), leaving ? 11 : 1);
        is("value after FORWARD_READ", x.value(0, A), v);
        int first = leaving ? 1 : 0;
        is("DATA twice", x.message(-1, 0), first + 2);
        sent(x, first, DATA, 0, 1, 1, 0, v);
        sent(x, first + 1, DATA, 0, HOME, 1, 0, v);
        x.run(64);
        is("reader's result", x.result(1), v);
        is("home at the end", x.home(A), leaving ? 1 + 32 * 2 : 1 + 32 * 3);
        is("state at the end", x.state(0, A), leaving ? 0 : 1);
    }

    private static void forwardWriteToOwner(boolean own, boolean leaving) {
        SharerHome x = alone(own);
        int v = own ? 6 : 5;
        x.add(1, A, 100);
        takes(x, WRITE, HOME);
        sent(x, 0, FORWARD_WRITE, HOME, 0, 1, 0, 0);
        is("home after WRITE", x.home(A), 2 + 4 * 2);
        if (leaving) {
            x.leave(0, A);
        }
        takes(x, FORWARD_WRITE, 0);
        is("state after FORWARD_WRITE", x.state(0, A), leaving ? 12 : 0);
        is("value after FORWARD_WRITE", x.value(0, A), 0);
        int first = leaving ? 1 : 0;
        is("DATA once", x.message(-1, 0), first + 1);
        sent(x, first, DATA, 0, 1, 1, 0, v);
        x.run(64);
        is("writer's result", x.result(1), v);
        is("writer's value", x.value(1, A), v + 100);
        is("writer's state", x.state(1, A), 3);
        is("state at the end", x.state(0, A), 0);
        is("home at the end", x.home(A), 2 + 4 * 2);
        is("memory is as it was", x.memory(A), 5);
    }

    private static void dataComesFromTheOwner(int owner) {
        int writer = (owner + 1) % 4;
        int reader = (owner + 2) % 4;
        SharerHome x = new SharerHome();
        x.store(owner, A, 6);
        x.run(64);
        x.store(writer, A, 7);
        takes(x, WRITE, HOME);
        takes(x, FORWARD_WRITE, owner);
        sent(x, 0, DATA, owner, writer, writer, 0, 6);
        takes(x, DATA, writer);
        x.load(reader, A);
        takes(x, READ, HOME);
        takes(x, FORWARD_READ, writer);
        sent(x, 0, DATA, writer, reader, reader, 0, 7);
        sent(x, 1, DATA, writer, HOME, reader, 0, 7);
    }

    private static void request(SharerHome x, int kind, int core) {
        if (kind == FORWARD_READ) {
            x.load(core, A);
            takes(x, READ, HOME);
        } else {
            x.store(core, A, 9);
            takes(x, WRITE, HOME);
        }
    }

    private static void forwardStallsWhileReading(int kind) {
        SharerHome x = new SharerHome();
        x.load(0, A);
        takes(x, READ, HOME);
        request(x, kind, 1);
        is("state 4", x.state(0, A), 4);
        stalls(x, kind, 0);
        takes(x, SOLE_DATA, 0);
        is("SOLE_DATA makes it SOLE", x.state(0, A), 2);
        is("SOLE_DATA makes it done", x.done(0), 1);
        takes(x, kind, 0);
    }

    private static void forwardStallsWhileWriting(int kind, boolean fromShared) {
        SharerHome x = shared(2);
        int writer = fromShared ? 0 : 3;
        x.store(writer, A, 8);
        takes(x, WRITE, HOME);
        request(x, kind, 2);
        is("state 5 or 7", x.state(writer, A), fromShared ? 7 : 5);
        stalls(x, kind, writer);
        takes(x, DATA, writer);
        is("state 6 or 8", x.state(writer, A), fromShared ? 8 : 6);
        stalls(x, kind, writer);
        takes(x, DROP, 1);
        if (!fromShared) {
            takes(x, DROP, 0);
            takes(x, DROPPED, writer);
            is("still state 6", x.state(writer, A), 6);
            stalls(x, kind, writer);
        }
        takes(x, DROPPED, writer);
        is("state 3", x.state(writer, A), 3);
        is("the store is done", x.result(writer), 8);
        takes(x, kind, writer);
        x.run(64);
        is("the other one's result", x.result(2), kind == FORWARD_READ ? 8 : 9);
    }

    private static void dropInShared() {
        SharerHome x = shared(3);
        x.store(1, A, 8);
        takes(x, WRITE, HOME);
        takes(x, DROP, 2);
        is("state after DROP", x.state(2, A), 0);
        sent(x, 2, DROPPED, 2, 1, 1, 0, 0);
        is("the other sharer keeps its copy", x.state(0, A), 1);
        is("and may read it", x.load(0, A), 1);
        is("the old value", x.result(0), 6);
    }

    private static void dropWhileWriting() {
        SharerHome x = shared(2);
        x.store(0, A, 8);
        x.add(1, A, 1);
        is("WRITE of core 1 first", x.deliver(1), 2);
        takes(x, WRITE, HOME);
        sent(x, 2, FORWARD_WRITE, HOME, 1, 0, 0, 0);
        takes(x, DROP, 0);
        is("state 5, from 7", x.state(0, A), 5);
        CHECK.due("it still waits", x.waits(0), true);
        sent(x, 2, DROPPED, 0, 1, 1, 0, 0);
        takes(x, DROPPED, 1);
        is("core 1 has taken one", x.due(1, A), -1);
        takes(x, DATA, 1);
        is("core 1 has added", x.value(1, A), 7);
        x.run(64);
        is("core 0 has stored", x.value(0, A), 8);
        is("core 1 has nothing", x.state(1, A), 0);
    }

    private static void dropWhileLeaving() {
        SharerHome x = shared(2);
        x.leave(0, A);
        x.store(1, A, 8);
        takes(x, WRITE, HOME);
        takes(x, DROP, 0);
        is("state 12, from 11", x.state(0, A), 12);
        takes(x, LEAVE_SHARED, HOME);
        is("the new owner stays", x.home(A), 2 + 4 * 2);
        takes(x, LEFT, 0);
        is("LEFT in state 12", x.state(0, A), 0);
        x.run(64);
        is("the store is done", x.result(1), 8);
    }

    private static void dropWhileReading() {
        SharerHome x = shared(2);
        x.load(2, A);
        takes(x, READ, HOME);
        x.store(0, A, 8);
        takes(x, WRITE, HOME);
        is("state 4", x.state(2, A), 4);
        stalls(x, DROP, 2);
        takes(x, DROP, 1);
        takes(x, DATA, 2);
        is("it reads the value of before the store", x.result(2), 6);
        is("state 1", x.state(2, A), 1);
        takes(x, DROP, 2);
        is("state 0", x.state(2, A), 0);
        x.run(64);
        is("the store is done", x.result(0), 8);
    }

    private static void dataToRead() {
        SharerHome x = shared(2);
        x.load(2, A);
        takes(x, READ, HOME);
        sent(x, 0, DATA, HOME, 2, 2, 0, 6);
        is("home", x.home(A), 1 + 32 * 7);
        takes(x, DATA, 2);
        is("state 1, from 4", x.state(2, A), 1);
        is("value", x.value(2, A), 6);
        is("result", x.result(2), 6);
        is("done", x.done(2), 1);
    }

    private static void dataAfterForwardedWrite() {
        SharerHome x = shared(2);
        x.leave(1, A);
        x.run(64);
        x.add(0, A, 3);
        takes(x, WRITE, HOME);
        sent(x, 0, DATA, HOME, 0, 0, 0, 6);
        takes(x, DATA, 0);
        is("state 3, from 7 at once", x.state(0, A), 3);
        is("value", x.value(0, A), 9);
    }

    private static void homeTakesRead() {
        SharerHome x = alone(true);
        x.leave(0, A);
        x.run(64);
        x.load(2, A);
        takes(x, READ, HOME);
        sent(x, 0, SOLE_DATA, HOME, 2, 2, 0, 6);
        is("READ, keeping 0", x.home(A), 2 + 4 * 3);
        x.run(64);
        x.load(3, A);
        takes(x, READ, HOME);
        sent(x, 0, FORWARD_READ, HOME, 2, 3, 0, 0);
        is("READ, keeping 2", x.home(A), 3 + 32 * (4 + 8));
    }

    private static void homeTakesWriteFromNobody() {
        SharerHome x = alone(true);
        x.leave(0, A);
        x.run(64);
        x.add(2, A, 4);
        takes(x, WRITE, HOME);
        sent(x, 0, DATA, HOME, 2, 2, 0, 6);
        is("WRITE, keeping 0", x.home(A), 2 + 4 * 3);
        takes(x, DATA, 2);
        is("state 3, from 5 at once", x.state(2, A), 3);
        is("value", x.value(2, A), 10);
        is("result", x.result(2), 6);
    }

    private static void homeTakesWriteFromSharer() {
        SharerHome x = shared(4);
        x.store(1, A, 8);
        takes(x, WRITE, HOME);
        is("four messages", x.message(-1, 0), 4);
        sent(x, 0, DATA, HOME, 1, 1, 3, 6);
        sent(x, 1, DROP, HOME, 0, 1, 0, 0);
        sent(x, 2, DROP, HOME, 2, 1, 0, 0);
        sent(x, 3, DROP, HOME, 3, 1, 0, 0);
        is("WRITE of a sharer, keeping 1", x.home(A), 2 + 4 * 2);
    }

    private static void homeTakesWriteFromOther() {
        SharerHome x = shared(3);
        x.leave(1, A);
        x.run(64);
        x.store(3, A, 8);
        takes(x, WRITE, HOME);
        is("three messages", x.message(-1, 0), 3);
        sent(x, 0, DATA, HOME, 3, 3, 2, 6);
        sent(x, 1, DROP, HOME, 0, 3, 0, 0);
        sent(x, 2, DROP, HOME, 2, 3, 0, 0);
        is("WRITE of another core, keeping 1", x.home(A), 2 + 4 * 4);
    }

    private static void homeTakesWriteWhenOwned() {
        SharerHome x = alone(true);
        x.store(1, A, 7);
        x.add(2, A, 1);
        x.load(3, A);
        takes(x, WRITE, HOME);
        takes(x, WRITE, HOME);
        takes(x, READ, HOME);
        sent(x, 0, FORWARD_WRITE, HOME, 0, 1, 0, 0);
        sent(x, 1, FORWARD_WRITE, HOME, 1, 2, 0, 0);
        sent(x, 2, FORWARD_READ, HOME, 2, 3, 0, 0);
        is("the last writer and the reader", x.home(A), 3 + 32 * (4 + 8));
        x.run(64);
        is("in the order of the home", x.result(2), 7);
        is("the reader is last", x.result(3), 8);
        is("memory", x.memory(A), 8);
    }

    private static void homeStalls() {
        SharerHome x = alone(true);
        x.load(1, A);
        takes(x, READ, HOME);
        x.load(2, A);
        x.store(3, A, 9);
        x.load(0, 0);
        stalls(x, READ, HOME);
        stalls(x, WRITE, HOME);
        is("READ of another line does not stall", x.deliver(3), 2);
        takes(x, FORWARD_READ, 0);
        takes(x, DATA, 1);
        stalls(x, READ, HOME);
        takes(x, DATA, HOME);
        is("DATA at the home", x.home(A), 1 + 32 * 3);
        is("memory", x.memory(A), 6);
        takes(x, READ, HOME);
        takes(x, WRITE, HOME);
    }

    private static void homeTakesLeaveOfOwner() {
        SharerHome x = alone(true);
        x.leave(0, A);
        takes(x, LEAVE_OWN, HOME);
        is("LEAVE_OWN: memory", x.memory(A), 6);
        is("LEAVE_OWN: keeping", x.home(A), 0);
        sent(x, 0, LEFT, HOME, 0, 0, 0, 0);
        takes(x, LEFT, 0);
        is("LEFT in state 9", x.state(0, A), 0);
        SharerHome y = alone(false);
        y.leave(0, A);
        takes(y, LEAVE_SOLE, HOME);
        is("LEAVE_SOLE: memory stays", y.memory(A), 5);
        is("LEAVE_SOLE: keeping", y.home(A), 0);
        takes(y, LEFT, 0);
        is("LEFT in state 10", y.state(0, A), 0);
    }

    private static void homeTakesLeaveOfSharers() {
        SharerHome x = shared(2);
        x.leave(0, A);
        takes(x, LEAVE_SHARED, HOME);
        is("one sharer is left", x.home(A), 1 + 32 * 2);
        sent(x, 0, LEFT, HOME, 0, 0, 0, 0);
        takes(x, LEFT, 0);
        is("LEFT in state 11", x.state(0, A), 0);
        x.leave(1, A);
        takes(x, LEAVE_SHARED, HOME);
        is("no sharer is left", x.home(A), 0);
        is("memory stays", x.memory(A), 6);
    }

    private static void homeTakesLeaveOfFormerOwner() {
        SharerHome x = alone(true);
        x.store(1, A, 7);
        takes(x, WRITE, HOME);
        x.leave(0, A);
        takes(x, LEAVE_OWN, HOME);
        is("not the owner: memory stays", x.memory(A), 5);
        is("not the owner: keeping stays", x.home(A), 2 + 4 * 2);
        is("LEFT is kept back", x.deliver(Scenes.place(x, LEFT, 0)), 0);
        takes(x, FORWARD_WRITE, 0);
        takes(x, LEFT, 0);
        is("state 0", x.state(0, A), 0);
        x.run(64);
        is("the store is done", x.value(1, A), 7);
    }

    private static void homeTakesLeaveWhileItWaits() {
        SharerHome x = alone(true);
        x.load(1, A);
        takes(x, READ, HOME);
        x.leave(0, A);
        takes(x, LEAVE_OWN, HOME);
        is("keeping 3 stays, without the owner", x.home(A), 3 + 32 * 2);
        is("memory waits for DATA", x.memory(A), 5);
        x.run(64);
        is("keeping 1 with the reader", x.home(A), 1 + 32 * 2);
        is("memory", x.memory(A), 6);
        is("the reader's result", x.result(1), 6);
    }

    private static void homeTakesDataWithNoSharers() {
        SharerHome x = alone(true);
        x.load(1, A);
        takes(x, READ, HOME);
        takes(x, FORWARD_READ, 0);
        takes(x, DATA, 1);
        x.leave(1, A);
        x.leave(0, A);
        takes(x, LEAVE_SHARED, HOME);
        is("one sharer, it still waits for data", x.home(A), 3 + 32);
        takes(x, LEAVE_SHARED, HOME);
        is("no sharers, it still waits for data", x.home(A), 3);
        takes(x, DATA, HOME);
        is("nobody", x.home(A), 0);
        is("memory", x.memory(A), 6);
    }
}
