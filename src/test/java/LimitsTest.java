/**
 * The smallest and the largest int as values, sums that wrap around, and objects that are used for all of their 512
 * calls.
 */
public final class LimitsTest {

    private static final int MIN = Integer.MIN_VALUE;
    private static final int MAX = Integer.MAX_VALUE;
    private static final int[] EXTREMES = {MIN, MIN + 1, -2, -1, 0, 1, 2, MAX - 1, MAX};
    private static final int CALLS = 512;
    private static final int A = 3;

    private static final Check CHECK = new Check("LimitsTest");

    public static void main(String[] args) {
        for (int v : EXTREMES) {
            storesAndCarries(v);
            for (int w : EXTREMES) {
                addsAtOnce(v, w);
                addsFromNone(v, w);
                addsFromSharedAtData(v, w);
                addsFromSharedAtDropped(v, w);
            }
        }
        answersLikeConstants();
        wrapsThroughManyCores();
        lastCallOf512Looks();
        lastCallOf512Adds();
        lastCallOf512AfterRefusedOnes();
        linesGoRoundFor512Calls();
        mostMessagesIn512Calls();
        laterCallsEnd();
        CHECK.end();
    }

    private static void is(String call, long got, long want) {
        CHECK.due(call, got, want);
    }

    private static void storesAndCarries(int v) {
        SharerHome x = new SharerHome();
        is("3: store of " + v, x.store(0, A, v), 0);
        x.run(64);
        is("10: value", x.value(0, A), v);
        is("16: result", x.result(0), v);
        x.load(1, A);
        x.run(2);
        is("8: DATA to core 1", x.carried(0), v);
        is("8: DATA to the home", x.carried(1), v);
        x.run(64);
        is("13: memory by DATA", x.memory(A), v);
        is("16: result of a load", x.result(1), v);
        is("10: value in state 1", x.value(1, A), v);
        x.store(2, A, v);
        x.run(64);
        x.leave(2, A);
        is("8: LEAVE_OWN", x.carried(0), v);
        is("10: value in state 9", x.value(2, A), v);
        x.run(64);
        is("13: memory by LEAVE_OWN", x.memory(A), v);
        x.load(3, A);
        x.run(1);
        is("8: SOLE_DATA", x.carried(0), v);
        x.run(64);
        is("16: result by SOLE_DATA", x.result(3), v);
        is("3: store of " + v + " in state 2", x.store(3, A, v), 1);
        is("9: state 3, though the value is the same", x.state(3, A), 3);
    }

    private static int wrapped(int v, int w) {
        return (int) ((long) v + w);
    }

    private static void isSum(SharerHome x, int core, int v, int w) {
        String call = "4: add of " + w + " to " + v;
        is(call + ": result", x.result(core), v);
        is(call + ": value", x.value(core, A), wrapped(v, w));
        is(call + ": state", x.state(core, A), 3);
    }

    private static void addsAtOnce(int v, int w) {
        SharerHome x = new SharerHome();
        x.store(0, A, v);
        x.run(64);
        is("4: add in state 3", x.add(0, A, w), 1);
        isSum(x, 0, v, w);
        x.store(0, A, v);
        x.leave(0, A);
        x.run(64);
        x.load(0, A);
        x.run(64);
        is("4: add in state 2", x.add(0, A, w), 1);
        isSum(x, 0, v, w);
    }

    private static void addsFromNone(int v, int w) {
        SharerHome x = new SharerHome();
        x.store(0, A, v);
        x.run(64);
        is("4: add in state 0", x.add(1, A, w), 0);
        x.run(64);
        isSum(x, 1, v, w);
    }

    private static void addsFromSharedAtData(int v, int w) {
        SharerHome x = new SharerHome();
        Scenes.share(x, A, v, 2);
        is("4: add in state 1", x.add(1, A, w), 0);
        x.deliver(0);
        Scenes.deliver(x, Scenes.DROP, 0);
        Scenes.deliver(x, Scenes.DROPPED, 1);
        is("16: not before DATA", x.done(1), 1);
        x.deliver(0);
        isSum(x, 1, v, w);
    }

    private static void addsFromSharedAtDropped(int v, int w) {
        SharerHome x = new SharerHome();
        Scenes.share(x, A, v, 2);
        x.add(1, A, w);
        x.deliver(0);
        x.deliver(0);
        is("10: the value before the last DROPPED", x.value(1, A), v);
        x.run(64);
        isSum(x, 1, v, w);
    }

    /** Values that look like BAD and BUSY are values. */
    private static void answersLikeConstants() {
        SharerHome x = new SharerHome();
        x.store(0, A, SharerHome.BAD);
        x.run(64);
        is("10: value -1", x.value(0, A), -1);
        x.add(0, A, SharerHome.BAD);
        is("10: value -2", x.value(0, A), -2);
        is("16: result -1", x.result(0), -1);
        is("2: load of -2", x.load(0, A), 1);
        is("16: result -2", x.result(0), -2);
    }

    private static void wrapsThroughManyCores() {
        SharerHome x = new SharerHome();
        int sum = 0;
        for (int round = 0; round < 40; round++) {
            int core = round % 4;
            x.add(core, A, MAX - round);
            x.run(64);
            is("16: what the addition read", x.result(core), sum);
            sum = wrapped(sum, MAX - round);
        }
        is("10: the sum", x.value(3, A), sum);
    }

    private static SharerHome usedFor(int calls) {
        SharerHome x = new SharerHome();
        x.store(0, A, 1);
        x.run(64);
        for (int call = 2; call < calls; call++) {
            is("4: call " + (call + 1), x.add(0, A, 1), 1);
        }
        return x;
    }

    private static void lastCallOf512Looks() {
        int adds = CALLS - 1 - 2;
        is("10: as call 512", usedFor(CALLS - 1).value(0, A), adds + 1);
        is("15: as call 512", usedFor(CALLS - 1).done(0), adds + 1);
        is("16: as call 512", usedFor(CALLS - 1).result(0), adds);
        is("9: as call 512", usedFor(CALLS - 1).state(0, A), 3);
        is("12: as call 512", usedFor(CALLS - 1).home(A), 2 + 4);
        is("13: as call 512", usedFor(CALLS - 1).memory(A), 0);
        is("17: as call 512", usedFor(CALLS - 1).tally(0, A), 2);
        is("11: as call 512", usedFor(CALLS - 1).due(0, A), 0);
        CHECK.due("14: as call 512", usedFor(CALLS - 1).waits(0), false);
        is("7: as call 512", usedFor(CALLS - 1).message(-1, 0), 0);
        is("8: as call 512", usedFor(CALLS - 1).carried(0), 0);
    }

    private static void lastCallOf512Adds() {
        is("2: as call 512", usedFor(CALLS - 1).load(1, A), 0);
        is("3: as call 512", usedFor(CALLS - 1).store(0, A, 5), 1);
        is("4: as call 512", usedFor(CALLS - 1).add(1, 0, 5), 0);
        is("5: as call 512", usedFor(CALLS - 1).leave(0, A), 1);
        SharerHome x = usedFor(CALLS - 2);
        x.leave(0, A);
        is("6: as call 512", x.deliver(0), 2);
        SharerHome y = usedFor(CALLS - 2);
        y.leave(0, A);
        is("18: as call 512", y.run(64), 2);
    }

    private static void lastCallOf512AfterRefusedOnes() {
        SharerHome x = new SharerHome();
        x.load(0, 0);
        for (int call = 1; call < CALLS - 1; call += 5) {
            is("2: BUSY", x.load(0, 1), SharerHome.BUSY);
            is("5: BUSY", x.leave(0, 0), SharerHome.BUSY);
            is("3: BAD", x.store(4, 0, 1), SharerHome.BAD);
            is("6: BAD", x.deliver(1), SharerHome.BAD);
            is("18: 0 times", x.run(65), 0);
        }
        is("18: as call 512", x.run(64), 2);
    }

    /** 170 rounds of three calls, and two more: each core adds to each line in turn, and reads the latest sum. */
    private static void linesGoRoundFor512Calls() {
        SharerHome x = new SharerHome();
        int[] sums = new int[4];
        int[] done = new int[4];
        int core = 0;
        int line = 0;
        for (int round = 0; round < 170; round++) {
            core = (round + round / 4) % 4;
            line = round / 2 % 4;
            int answer = x.add(core, line, round);
            int taken = x.run(64);
            is("4: add is done at once or by messages", answer, taken == 0 ? 1 : 0);
            is("16: the latest sum", x.result(core), sums[line]);
            sums[line] += round;
            done[core]++;
        }
        is("10: call 511", x.value(core, line), sums[line]);
        is("15: call 512", x.done(core), done[core]);
    }

    /** The most messages that wait, again and again until the calls are used up. */
    private static void mostMessagesIn512Calls() {
        SharerHome x = new SharerHome();
        int calls = 0;
        for (int round = 0; calls + 72 <= CALLS; round++) {
            for (int line = 0; line < 4; line++) {
                Scenes.share(x, line, 100 * round + line, 4);
                calls += 8;
            }
            for (int core = 0; core < 4; core++) {
                is("3: store", x.store(core, core, -round), 0);
            }
            for (int i = 0; i < 16; i++) {
                x.leave(i / 4, i % 4);
            }
            for (int core = 0; core < 4; core++) {
                is("6: WRITE", x.deliver(0), 2);
            }
            is("7: messages", x.message(-1, 0), 28);
            is("18: all of them", x.run(64), 52);
            for (int core = 0; core < 4; core++) {
                is("16: result", x.result(core), -round);
            }
            calls += 4 + 16 + 4 + 1 + 1 + 4;
        }
    }

    /** What calls after the 512th answer is free, but none may throw; a throw ends this test with another exit code. */
    private static void laterCallsEnd() {
        SharerHome x = new SharerHome();
        for (int call = 0; call < 40 * CALLS; call++) {
            int core = call % 5;
            int line = call / 5 % 5;
            x.store(core, line, call);
            x.leave(line, core);
            x.deliver(call % 31);
            x.add(line, core, call);
            x.load(core, core);
            x.deliver(call % 29);
            x.run(call % 67);
            x.message(call % 37, call % 7);
            x.carried(call % 37);
        }
        Scenes.shown(x);
    }
}
