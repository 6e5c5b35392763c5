/**
 * Every state of a copy, 0 .. 12, with every call that depends on it: what is done at once and what is not, what is
 * BUSY, and in which states an answer is 0.
 */
public final class StatesTest {

    private static final int BAD = SharerHome.BAD;
    private static final int BUSY = SharerHome.BUSY;
    private static final int CORE = Scenes.CORE;
    private static final int LINE = Scenes.LINE;
    private static final int OTHER_LINE = 3;
    private static final int VALUE = Scenes.VALUE;

    private static final Check CHECK = new Check("StatesTest");

    public static void main(String[] args) {
        newObject();
        for (int state = 0; state < Scenes.STATES; state++) {
            looks(state);
            loads(state);
            writes(state, false);
            writes(state, true);
            leaves(state);
            badBeforeBusy(state);
        }
        for (int state = 4; state <= 8; state++) {
            busyKeepsTheOperation(state);
        }
        for (int state : new int[] {0, 1, 2, 3, 9, 10, 11, 12}) {
            waitsForAnotherLine(state);
            isFreeAgain(state);
        }
        dueFromNone();
        dueFromShared();
        dueBeginsAnew();
        resultIsOfTheLatestDone();
        tallyBeforeThereWasOne();
        ownersAndSharers();
        CHECK.end();
    }

    private static void is(String call, long got, long want) {
        CHECK.due(call, got, want);
    }

    private static void unchanged(String call, SharerHome x, String before) {
        CHECK.due(call + " changes nothing", Scenes.shown(x).equals(before), true);
    }

    private static boolean isStill(int state) {
        return state <= 3;
    }

    /** Promise 1, and the calls on an object in which nothing is. */
    private static void newObject() {
        SharerHome x = new SharerHome();
        String before = Scenes.shown(x);
        is("1: no messages", x.message(-1, 0), 0);
        is("6: deliver(0) with none", x.deliver(0), BAD);
        is("7: message(0, 0) with none", x.message(0, 0), BAD);
        is("8: carried(0) with none", x.carried(0), 0);
        is("18: run(1) with none", x.run(1), 0);
        is("18: run(64) with none", x.run(64), 0);
        for (int i = 0; i < 4; i++) {
            is("1: keeping 0", x.home(i), 0);
            is("1: memory 0 at first", x.memory(i), 0);
            CHECK.due("1: no core waits", x.waits(i), false);
            is("1: nothing is done", x.done(i), 0);
            is("1: no result", x.result(i), 0);
            for (int line = 0; line < 4; line++) {
                is("1: state 0", x.state(i, line), 0);
                is("1: no value", x.value(i, line), 0);
                is("1: nothing due", x.due(i, line), 0);
                is("1: tally 0 before there was one", x.tally(i, line), 0);
                is("5: leave in state 0", x.leave(i, line), 0);
            }
        }
        unchanged("looking at a new object", x, before);
        CHECK.due("1: two new objects are alike", Scenes.shown(new SharerHome()).equals(before), true);
    }

    private static void looks(int state) {
        SharerHome x = Scenes.inState(state);
        int[] values = {0, VALUE, VALUE, VALUE, 0, 0, VALUE, VALUE, VALUE, VALUE, VALUE, VALUE, 0};
        int[] dues = {0, 0, 0, 0, 0, 0, 2, 0, 1, 0, 0, 0, 0};
        is("9: state", x.state(CORE, LINE), state);
        is("10: value in state " + state, x.value(CORE, LINE), values[state]);
        is("11: due in state " + state, x.due(CORE, LINE), dues[state]);
        CHECK.due("14: waits in state " + state, x.waits(CORE), state >= 4 && state <= 8);
        is("9: the other line's state", x.state(CORE, OTHER_LINE), 0);
        is("10: the other line's value", x.value(CORE, OTHER_LINE), 0);
    }

    private static void loads(int state) {
        SharerHome x = Scenes.inState(state);
        String call = "2: load in state " + state;
        String before = Scenes.shown(x);
        int count = x.message(-1, 0);
        int done = x.done(CORE);
        int[] answers = {0, 1, 1, 1};
        is(call, x.load(CORE, LINE), isStill(state) ? answers[state] : BUSY);
        if (!isStill(state)) {
            unchanged(call, x, before);
            return;
        }
        int[] next = {4, 1, 2, 3};
        is(call + ": state", x.state(CORE, LINE), next[state]);
        is(call + ": messages", x.message(-1, 0), count + (state == 0 ? 1 : 0));
        is(call + ": done", x.done(CORE), done + answers[state]);
        CHECK.due(call + ": waits", x.waits(CORE), state == 0);
        if (state == 0) {
            isRequest(call, x, Scenes.READ, count);
            x.run(64);
        }
        is(call + ": result", x.result(CORE), VALUE);
    }

    private static void writes(int state, boolean adds) {
        SharerHome x = Scenes.inState(state);
        String call = (adds ? "4: add" : "3: store") + " in state " + state;
        String before = Scenes.shown(x);
        int count = x.message(-1, 0);
        int done = x.done(CORE);
        int[] answers = {0, 0, 1, 1};
        int got = adds ? x.add(CORE, LINE, 5) : x.store(CORE, LINE, 5);
        is(call, got, isStill(state) ? answers[state] : BUSY);
        if (!isStill(state)) {
            unchanged(call, x, before);
            return;
        }
        int[] next = {5, 7, 3, 3};
        is(call + ": state", x.state(CORE, LINE), next[state]);
        is(call + ": messages", x.message(-1, 0), count + 1 - answers[state]);
        is(call + ": done", x.done(CORE), done + answers[state]);
        CHECK.due(call + ": waits", x.waits(CORE), answers[state] == 0);
        if (answers[state] == 0) {
            isRequest(call, x, Scenes.WRITE, count);
            x.run(64);
        }
        is(call + ": state at the end", x.state(CORE, LINE), 3);
        is(call + ": result", x.result(CORE), adds ? VALUE : 5);
        is(call + ": value", x.value(CORE, LINE), adds ? VALUE + 5 : 5);
    }

    private static void isRequest(String call, SharerHome x, int kind, int k) {
        int[] parts = {kind, LINE, CORE, Scenes.HOME, CORE, 0};
        for (int what = 0; what < parts.length; what++) {
            is(call + ": message(" + k + ", " + what + ")", x.message(k, what), parts[what]);
        }
        is(call + ": tally", x.tally(CORE, LINE), 1);
    }

    private static void leaves(int state) {
        SharerHome x = Scenes.inState(state);
        leavesFrom("5: leave in state " + state, x, state);
    }

    private static void leavesFrom(String call, SharerHome x, int state) {
        String before = Scenes.shown(x);
        int count = x.message(-1, 0);
        int[] answers = {0, 1, 1, 1};
        is(call, x.leave(CORE, LINE), isStill(state) ? answers[state] : BUSY);
        if (state == 0 || !isStill(state)) {
            unchanged(call, x, before);
            return;
        }
        int[] next = {0, 11, 10, 9};
        int[] kinds = {0, Scenes.LEAVE_SHARED, Scenes.LEAVE_SOLE, Scenes.LEAVE_OWN};
        is(call + ": state", x.state(CORE, LINE), next[state]);
        is(call + ": messages", x.message(-1, 0), count + 1);
        isRequest(call, x, kinds[state], count);
        is(call + ": carried", x.carried(count), state == 3 ? VALUE : 0);
    }

    private static void badBeforeBusy(int state) {
        SharerHome x = Scenes.inState(state);
        String before = Scenes.shown(x);
        is("2: load(1, 4), state " + state, x.load(CORE, 4), BAD);
        is("3: store(1, -1, 5), state " + state, x.store(CORE, -1, 5), BAD);
        is("4: add(1, 4, 5), state " + state, x.add(CORE, 4, 5), BAD);
        is("5: leave(1, -1), state " + state, x.leave(CORE, -1), BAD);
        is("5: leave(4, 2), state " + state, x.leave(4, LINE), BAD);
        unchanged("BAD calls, state " + state, x, before);
    }

    /** What a core waits with is not looked at by any call, but shows when it is done: a refused call must not spoil it. */
    private static void busyKeepsTheOperation(int state) {
        SharerHome x = Scenes.inState(state);
        int done = x.done(CORE);
        is("2: load of the line in state " + state, x.load(CORE, LINE), BUSY);
        is("3: store to the line in state " + state, x.store(CORE, LINE, 5), BUSY);
        is("4: add to the line in state " + state, x.add(CORE, LINE, 6), BUSY);
        is("4: add to another line in state " + state, x.add(CORE, OTHER_LINE, 6), BUSY);
        is("3: store to no line in state " + state, x.store(CORE, 4, 5), BAD);
        x.run(64);
        is("15: one is done, from state " + state, x.done(CORE), done + 1);
        is("16: the result of the first one, from state " + state, x.result(CORE), state == 4 ? VALUE : 33);
        is("10: its value, from state " + state, x.value(CORE, LINE), state == 4 ? VALUE : 33);
    }

    /** 'BUSY: The core waits', whatever the state of the line is; but it can leave another line than it waits for. */
    private static void waitsForAnotherLine(int state) {
        SharerHome x = Scenes.inState(state);
        String at = " in state " + state + " while it waits for another line";
        is("2: load of the other line", x.load(CORE, OTHER_LINE), 0);
        String before = Scenes.shown(x);
        is("2: load" + at, x.load(CORE, LINE), BUSY);
        is("3: store" + at, x.store(CORE, LINE, 5), BUSY);
        is("4: add" + at, x.add(CORE, LINE, 5), BUSY);
        is("2: load of the line that it waits for", x.load(CORE, OTHER_LINE), BUSY);
        is("3: store to the line that it waits for", x.store(CORE, OTHER_LINE, 5), BUSY);
        is("5: leave of the line that it waits for", x.leave(CORE, OTHER_LINE), BUSY);
        unchanged("BUSY calls" + at, x, before);
        leavesFrom("5: leave" + at, x, state);
    }

    /** 'until it is done': one delivery before the end it is BUSY, after it no more. */
    private static void isFreeAgain(int state) {
        SharerHome x = Scenes.inState(state);
        x.load(CORE, OTHER_LINE);
        x.deliver(x.message(-1, 0) - 1);
        is("2: BUSY before the data is taken", x.load(CORE, OTHER_LINE), BUSY);
        CHECK.due("14: waits before the data is taken", x.waits(CORE), true);
        x.deliver(x.message(-1, 0) - 1);
        CHECK.due("14: waits when it is done", x.waits(CORE), false);
        int[] answers = {0, 1, 1, 1};
        is("2: load in state " + state + " after another", x.load(CORE, LINE), isStill(state) ? answers[state] : BUSY);
    }

    /** Promise 11 in states 5 and 6, for none to three sharers, with DATA after every number of DROPPED. */
    private static void dueFromNone() {
        for (int sharers = 0; sharers <= 3; sharers++) {
            for (int early = 0; early <= sharers; early++) {
                SharerHome x = new SharerHome();
                Scenes.share(x, 0, 6, 3);
                for (int core = sharers; core < 3; core++) {
                    x.leave(core, 0);
                    x.run(64);
                }
                x.store(3, 0, 7);
                is("11: in state 5, before WRITE is taken", x.due(3, 0), 0);
                is("9: state 5", x.state(3, 0), 5);
                countsDown(x, 3, sharers, early, 5);
            }
        }
    }

    /** The same in states 7 and 8; with no other sharer DATA's number is 0. */
    private static void dueFromShared() {
        for (int others = 0; others <= 3; others++) {
            for (int early = 0; early <= others; early++) {
                SharerHome x = new SharerHome();
                Scenes.share(x, 0, 6, 4);
                for (int core = others + 1; core < 4; core++) {
                    x.leave(core, 0);
                    x.run(64);
                }
                x.store(0, 0, 7);
                is("11: in state 7, before WRITE is taken", x.due(0, 0), 0);
                is("9: state 7", x.state(0, 0), 7);
                countsDown(x, 0, others, early, 7);
            }
        }
    }

    private static void countsDown(SharerHome x, int core, int number, int early, int state) {
        String at = " of " + number + ", " + early + " before DATA";
        Scenes.deliver(x, Scenes.WRITE, Scenes.HOME);
        is("7: DATA's number" + at, x.message(Scenes.place(x, Scenes.DATA, core), 5), number);
        for (int taken = 1; taken <= early; taken++) {
            takesDropped(x, core);
            is("11: taken before DATA" + at, x.due(core, 0), -taken);
            is("9: state before DATA" + at, x.state(core, 0), state);
            CHECK.due("14: waits before DATA" + at, x.waits(core), true);
        }
        Scenes.deliver(x, Scenes.DATA, core);
        for (int due = number - early; due > 0; due--) {
            is("11: due" + at, x.due(core, 0), due);
            is("9: state with DATA" + at, x.state(core, 0), state + 1);
            is("10: DATA's value" + at, x.value(core, 0), 6);
            CHECK.due("14: waits" + at, x.waits(core), true);
            takesDropped(x, core);
        }
        is("11: nothing due at the end" + at, x.due(core, 0), 0);
        is("9: state 3 at the end" + at, x.state(core, 0), 3);
        is("16: result at the end" + at, x.result(core), 7);
        is("7: no message is left" + at, x.message(-1, 0), 0);
    }

    private static void takesDropped(SharerHome x, int core) {
        for (int k = 0; k < x.message(-1, 0); k++) {
            if (x.message(k, 0) == Scenes.DROP) {
                is("6: DROP is taken", x.deliver(k), 2);
                break;
            }
        }
        is("6: DROPPED is taken", Scenes.deliver(x, Scenes.DROPPED, core), 2);
    }

    /** What a former request has taken does not count for the next one. */
    private static void dueBeginsAnew() {
        SharerHome x = new SharerHome();
        for (int round = 0; round < 3; round++) {
            Scenes.share(x, 0, 6 - round, 4);
            x.store(2, 0, 7);
            is("11: a new request", x.due(2, 0), 0);
            Scenes.deliver(x, Scenes.WRITE, Scenes.HOME);
            takesDropped(x, 2);
            takesDropped(x, 2);
            is("11: two taken", x.due(2, 0), -2);
            x.run(64);
            is("11: done", x.due(2, 0), 0);
        }
    }

    /** 'the latest operation of a core that is done; 0 if there is none' */
    private static void resultIsOfTheLatestDone() {
        SharerHome x = new SharerHome();
        x.store(0, 0, 5);
        is("16: none is done", x.result(0), 0);
        is("15: none is done", x.done(0), 0);
        x.deliver(0);
        is("16: still none", x.result(0), 0);
        x.deliver(0);
        is("16: the first one", x.result(0), 5);
        is("15: one is done", x.done(0), 1);
        x.store(0, 1, 6);
        is("16: the second one is not done", x.result(0), 5);
        is("3: a third one", x.store(0, 0, 7), BUSY);
        is("16: BUSY has no result", x.result(0), 5);
        is("3: a fourth one", x.store(0, 4, 8), BAD);
        is("16: BAD has no result", x.result(0), 5);
        is("15: BUSY and BAD are not done", x.done(0), 1);
        x.run(64);
        is("16: the second one", x.result(0), 6);
        x.leave(0, 0);
        x.run(64);
        is("16: leaving has no result", x.result(0), 6);
        is("15: leaving is no operation", x.done(0), 2);
    }

    /** Promise 17: a core that only gives its copy up for another one has sent nothing of its own. */
    private static void tallyBeforeThereWasOne() {
        SharerHome x = new SharerHome();
        x.load(0, 0);
        is("17: READ itself", x.tally(0, 0), 1);
        is("17: the same line of another core", x.tally(1, 0), 0);
        is("17: another line of the core", x.tally(0, 1), 0);
        x.run(64);
        is("17: READ, SOLE_DATA", x.tally(0, 0), 2);
        x.load(0, 0);
        is("17: a load that is done at once", x.tally(0, 0), 2);
        x.leave(0, 1);
        is("17: a leave in state 0", x.tally(0, 1), 0);
        x.load(0, 4);
        is("17: a load that is BAD", x.tally(0, 0), 2);
        x.store(1, 0, 3);
        x.run(64);
        is("17: the former owner's stays", x.tally(0, 0), 2);
        is("17: WRITE, FORWARD_WRITE, DATA", x.tally(1, 0), 3);
        x.load(0, 0);
        is("17: READ begins anew", x.tally(0, 0), 1);
        is("17: BUSY sends nothing", x.load(0, 1), BUSY);
        is("17: and counts nothing", x.tally(0, 1), 0);
    }

    /** Promise 12: every owner, and every set of sharers that leaving can make. */
    private static void ownersAndSharers() {
        for (int owner = 0; owner < 4; owner++) {
            SharerHome x = new SharerHome();
            x.load(owner, owner);
            x.deliver(0);
            is("12: owned by " + owner, x.home(owner), 2 + 4 * (owner + 1));
            x.run(64);
            x.leave(owner, owner);
            x.deliver(0);
            is("12: the owner does not show when it is not owned", x.home(owner), 0);
        }
        for (int left = 0; left < 16; left++) {
            SharerHome x = new SharerHome();
            Scenes.share(x, 1, 6, 4);
            is("12: all share", x.home(1), 1 + 32 * 15);
            for (int core = 0; core < 4; core++) {
                if ((left >> core & 1) == 1) {
                    x.leave(core, 1);
                }
            }
            x.run(64);
            is("12: those without " + left, x.home(1), left == 15 ? 0 : 1 + 32 * (15 - left));
        }
    }
}
