/**
 * The cases of the home's table in which nobody is left: 'or 0 if there are no sharers', 'keeping 1 becomes 0 if there
 * are no sharers', 'no sharers then'; those next to them, in which somebody is; and what a line does afterwards.
 */
public final class NobodyLeftTest {

    private static final int HOME = Scenes.HOME;
    private static final int A = 0;

    private static final Check CHECK = new Check("NobodyLeftTest");

    public static void main(String[] args) {
        sharersLeaveOneByOne();
        lastSharerLeavesTwice();
        ownerLeaves(false);
        ownerLeaves(true);
        for (int leavers = 0; leavers < 4; leavers++) {
            dataAfterLeavers(leavers);
        }
        dataAfterLeavingOwner(false);
        dataAfterLeavingOwner(true);
        writeEndsSharers(0);
        writeEndsSharers(3);
        writeOfTheOnlySharer();
        writeBesideLeavingSharers();
        lateLeave(0);
        lateLeave(1);
        lateLeave(2);
        lateLeave(3);
        readAfterNobody();
        writeAfterNobody();
        CHECK.end();
    }

    private static void is(String call, long got, long want) {
        CHECK.due(call, got, want);
    }

    private static void takes(SharerHome x, int kind, int receiver) {
        is("6: " + receiver + " takes kind " + kind, Scenes.deliver(x, kind, receiver), 2);
    }

    private static SharerHome shared(int many) {
        SharerHome x = new SharerHome();
        Scenes.share(x, A, 6, many);
        return x;
    }

    private static void sharersLeaveOneByOne() {
        SharerHome x = shared(4);
        int[] homes = {1 + 32 * (2 + 4 + 8), 1 + 32 * (4 + 8), 1 + 32 * 8, 0};
        for (int core = 0; core < 4; core++) {
            x.leave(core, A);
            is("12: not before LEAVE_SHARED is taken", x.home(A), core == 0 ? 1 + 32 * 15 : homes[core - 1]);
            takes(x, Scenes.LEAVE_SHARED, HOME);
            is("12: keeping 1 until there are no sharers", x.home(A), homes[core]);
            is("7: LEFT in all cases", x.message(0, 0), Scenes.LEFT);
            is("7: LEFT to the core", x.message(0, 3), core);
            x.deliver(0);
        }
        is("13: the memory stays", x.memory(A), 6);
    }

    /** The same line is shared and left again, by cores in another order. */
    private static void lastSharerLeavesTwice() {
        SharerHome x = shared(2);
        for (int round = 0; round < 2; round++) {
            x.leave(1 - round, A);
            x.leave(round, A);
            x.run(1);
            is("12: one is left", x.home(A), 1 + 32 * (round == 0 ? 1 : 2));
            x.run(1);
            is("12: nobody is left", x.home(A), 0);
            x.run(64);
            x.load(0, A);
            x.run(64);
            is("12: owned", x.home(A), 2 + 4);
            x.load(1, A);
            x.run(64);
            is("12: shared again", x.home(A), 1 + 32 * 3);
        }
    }

    private static void ownerLeaves(boolean own) {
        SharerHome x = new SharerHome();
        x.load(3, A);
        x.run(64);
        if (own) {
            x.store(3, A, 9);
        }
        x.leave(3, A);
        is("12: not before it is taken", x.home(A), 2 + 4 * 4);
        takes(x, own ? Scenes.LEAVE_OWN : Scenes.LEAVE_SOLE, HOME);
        is("12: nobody is left", x.home(A), 0);
        is("13: the value by LEAVE_OWN alone", x.memory(A), own ? 9 : 0);
        takes(x, Scenes.LEFT, 3);
        is("9: state 0", x.state(3, A), 0);
    }

    /** Of the owner (1) and the reader (2) those whose bits are set leave before the home has its DATA. */
    private static void dataAfterLeavers(int leavers) {
        SharerHome x = new SharerHome();
        x.store(0, A, 6);
        x.run(64);
        x.load(1, A);
        takes(x, Scenes.READ, HOME);
        takes(x, Scenes.FORWARD_READ, 0);
        takes(x, Scenes.DATA, 1);
        for (int core = 0; core < 2; core++) {
            if ((leavers >> core & 1) == 1) {
                x.leave(core, A);
                takes(x, Scenes.LEAVE_SHARED, HOME);
                takes(x, Scenes.LEFT, core);
            }
        }
        int sharers = 3 - leavers;
        is("12: keeping 3 stays, whoever is left", x.home(A), 3 + 32 * sharers);
        is("13: the memory waits for DATA", x.memory(A), 0);
        takes(x, Scenes.DATA, HOME);
        is("12: keeping 1, or 0 if there are no sharers", x.home(A), sharers == 0 ? 0 : 1 + 32 * sharers);
        is("13: DATA's value", x.memory(A), 6);
        is("7: no message is left", x.message(-1, 0), 0);
    }

    /** The owner leaves before it takes FORWARD_READ; then the reader leaves, before the home has its DATA. */
    private static void dataAfterLeavingOwner(boolean own) {
        SharerHome x = new SharerHome();
        x.load(0, A);
        x.run(64);
        if (own) {
            x.store(0, A, 6);
        }
        x.leave(0, A);
        x.load(1, A);
        takes(x, Scenes.READ, HOME);
        takes(x, own ? Scenes.LEAVE_OWN : Scenes.LEAVE_SOLE, HOME);
        is("12: keeping 3, the reader alone", x.home(A), 3 + 32 * 2);
        is("13: not the value of LEAVE_OWN", x.memory(A), 0);
        takes(x, Scenes.FORWARD_READ, 0);
        takes(x, Scenes.DATA, 1);
        x.leave(1, A);
        takes(x, Scenes.LEAVE_SHARED, HOME);
        is("12: keeping 3, no sharers", x.home(A), 3);
        takes(x, Scenes.DATA, HOME);
        is("12: nobody is left", x.home(A), 0);
        is("13: DATA's value", x.memory(A), own ? 6 : 0);
        x.run(64);
        is("9: the owner has left", x.state(0, A), 0);
        is("9: the reader has left", x.state(1, A), 0);
    }

    /** Core 0 is a sharer, core 3 is none; both end all sharers when they write. */
    private static void writeEndsSharers(int writer) {
        SharerHome x = shared(3);
        x.store(writer, A, 8);
        is("12: not before WRITE is taken", x.home(A), 1 + 32 * 7);
        takes(x, Scenes.WRITE, HOME);
        is("12: no sharers then", x.home(A), 2 + 4 * (writer + 1));
        x.run(64);
        is("12: at the end", x.home(A), 2 + 4 * (writer + 1));
        x.leave(writer, A);
        x.run(64);
        is("12: nobody is left", x.home(A), 0);
    }

    private static void writeOfTheOnlySharer() {
        SharerHome x = shared(2);
        x.leave(0, A);
        x.run(64);
        x.store(1, A, 8);
        takes(x, Scenes.WRITE, HOME);
        is("7: DATA alone, no DROP", x.message(-1, 0), 1);
        is("7: DATA", x.message(0, 0), Scenes.DATA);
        is("7: number 0", x.message(0, 5), 0);
        is("12: no sharers then", x.home(A), 2 + 4 * 2);
        takes(x, Scenes.DATA, 1);
        is("9: state 3 at once", x.state(1, A), 3);
    }

    /** A sharer that is leaving still counts for the home until its LEAVE_SHARED is taken. */
    private static void writeBesideLeavingSharers() {
        SharerHome x = shared(3);
        x.leave(0, A);
        x.leave(1, A);
        x.store(2, A, 8);
        takes(x, Scenes.LEAVE_SHARED, HOME);
        takes(x, Scenes.WRITE, HOME);
        is("7: one other sharer is left", x.message(Scenes.place(x, Scenes.DATA, 2), 5), 1);
        is("7: DROP to it", x.message(Scenes.place(x, Scenes.DROP, 1), 3), 1);
        takes(x, Scenes.LEAVE_SHARED, HOME);
        is("12: the owner stays", x.home(A), 2 + 4 * 3);
        x.run(64);
        is("9: state 3", x.state(2, A), 3);
        is("9: the sharer has left", x.state(1, A), 0);
    }

    /**
     * Core 0 has left with nothing any more, and its LEAVE_OWN is taken when the line is in another keeping: r is no
     * sharer there, so the keeping, the owner, the sharers and the memory stay.
     */
    private static void lateLeave(int keeping) {
        SharerHome x = new SharerHome();
        x.store(0, A, 5);
        x.run(64);
        x.leave(0, A);
        x.store(1, A, 6);
        takes(x, Scenes.WRITE, HOME);
        takes(x, Scenes.FORWARD_WRITE, 0);
        is("9: state 12", x.state(0, A), 12);
        takes(x, Scenes.DATA, 1);
        if (keeping == 0) {
            x.leave(1, A);
            is("6: LEAVE_OWN of core 1", x.deliver(1), 2);
            takes(x, Scenes.LEFT, 1);
        }
        if (keeping == 1 || keeping == 3) {
            x.load(2, A);
            takes(x, Scenes.READ, HOME);
        }
        if (keeping == 1) {
            takes(x, Scenes.FORWARD_READ, 1);
            takes(x, Scenes.DATA, HOME);
        }
        int[] homes = {0, 1 + 32 * 6, 2 + 4 * 2, 3 + 32 * 6};
        int[] memories = {6, 6, 0, 0};
        is("12: before the late LEAVE_OWN", x.home(A), homes[keeping]);
        takes(x, Scenes.LEAVE_OWN, HOME);
        is("12: after the late LEAVE_OWN", x.home(A), homes[keeping]);
        is("13: the memory stays", x.memory(A), memories[keeping]);
        takes(x, Scenes.LEFT, 0);
        is("9: state 0", x.state(0, A), 0);
    }

    private static SharerHome nobody() {
        SharerHome x = shared(2);
        x.leave(0, A);
        x.leave(1, A);
        x.run(64);
        return x;
    }

    private static void readAfterNobody() {
        SharerHome x = nobody();
        x.load(2, A);
        takes(x, Scenes.READ, HOME);
        is("7: SOLE_DATA", x.message(0, 0), Scenes.SOLE_DATA);
        is("8: the memory", x.carried(0), 6);
        is("12: owned, no sharers", x.home(A), 2 + 4 * 3);
        takes(x, Scenes.SOLE_DATA, 2);
        is("9: state 2", x.state(2, A), 2);
    }

    private static void writeAfterNobody() {
        SharerHome x = nobody();
        x.add(2, A, 1);
        takes(x, Scenes.WRITE, HOME);
        is("7: DATA alone", x.message(-1, 0), 1);
        is("7: number 0", x.message(0, 5), 0);
        is("8: the memory", x.carried(0), 6);
        is("12: owned, no sharers", x.home(A), 2 + 4 * 3);
        takes(x, Scenes.DATA, 2);
        is("9: state 3", x.state(2, A), 3);
        is("10: value", x.value(2, A), 7);
    }
}
