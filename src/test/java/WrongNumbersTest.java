/**
 * The bounds of every number that a call takes: the values just below and just above them, the smallest and the largest
 * int. The objects hold something in every place, so that an answer taken from a wrong place is seen; and a call with a
 * wrong number changes nothing.
 */
public final class WrongNumbersTest {

    private static final int BAD = SharerHome.BAD;
    private static final int MIN = Integer.MIN_VALUE;
    private static final int MAX = Integer.MAX_VALUE;
    private static final int SCENES = 5;
    /** How many messages wait in each scene. */
    private static final int[] COUNTS = {0, 1, 0, 6, 28};

    private static final Check CHECK = new Check("WrongNumbersTest");

    public static void main(String[] args) {
        for (int wrong : Scenes.NOT_0_TO_3) {
            for (int scene = 0; scene < SCENES; scene++) {
                wrongCoreOrLine(scene, wrong);
            }
        }
        boundsOfCopies();
        boundsOfCoresAndLines();
        for (int scene = 0; scene < SCENES; scene++) {
            wrongMessages(scene);
            wrongWhat(scene);
            countWhateverWhatIs(scene);
            wrongTimes(scene);
        }
        rightTimes();
        CHECK.end();
    }

    private static void is(String call, long got, long want) {
        CHECK.due(call, got, want);
    }

    /** A twin that is made anew shows what was there before, and keeps both objects within their 512 calls. */
    private static void unchanged(String calls, SharerHome x, int scene) {
        CHECK.due(calls + " change nothing in scene " + scene, Scenes.shown(x).equals(Scenes.shown(made(scene))), true);
    }

    private static SharerHome made(int scene) {
        switch (scene) {
            case 0:
                return new SharerHome();
            case 1:
                return oneMessage();
            case 2:
                return Scenes.allShareAll();
            case 3:
                return everythingThere();
            default:
                return mostMessages();
        }
    }

    /** Each core waits, has a result, and a copy with a value of each line; core 0 must still take three DROPPED. */
    private static SharerHome everythingThere() {
        SharerHome x = Scenes.allShareAll();
        for (int core = 0; core < 4; core++) {
            x.store(core, core, 10 + core);
        }
        x.deliver(0);
        Scenes.deliver(x, Scenes.DATA, 0);
        return x;
    }

    /** One LEAVE_OWN waits, with the value 9. */
    private static SharerHome oneMessage() {
        SharerHome x = new SharerHome();
        x.store(3, 1, 9);
        x.run(64);
        x.leave(3, 1);
        return x;
    }

    private static SharerHome mostMessages() {
        SharerHome x = Scenes.allWriteAndLeave();
        for (int core = 0; core < 4; core++) {
            x.deliver(0);
        }
        return x;
    }

    private static void wrongCoreOrLine(int scene, int wrong) {
        SharerHome x = made(scene);
        for (int right = 0; right < 4; right++) {
            wrongCopy(x, wrong, right);
            wrongCopy(x, right, wrong);
        }
        wrongCopy(x, wrong, wrong);
        wrongCopy(x, wrong, -1);
        wrongCopy(x, 4, wrong);
        is("12: home(" + wrong + ")", x.home(wrong), BAD);
        is("13: memory(" + wrong + ")", x.memory(wrong), 0);
        CHECK.due("14: waits(" + wrong + ")", x.waits(wrong), false);
        is("15: done(" + wrong + ")", x.done(wrong), BAD);
        is("16: result(" + wrong + ")", x.result(wrong), 0);
        unchanged("wrong cores and lines", x, scene);
    }

    private static void wrongCopy(SharerHome x, int core, int line) {
        String copy = "(" + core + ", " + line + ")";
        is("2: load" + copy, x.load(core, line), BAD);
        is("3: store" + copy, x.store(core, line, 7), BAD);
        is("4: add" + copy, x.add(core, line, 7), BAD);
        is("5: leave" + copy, x.leave(core, line), BAD);
        is("9: state" + copy, x.state(core, line), BAD);
        is("10: value" + copy, x.value(core, line), 0);
        is("11: due" + copy, x.due(core, line), BAD);
        is("17: tally" + copy, x.tally(core, line), BAD);
    }

    /** Just inside the bounds: the first and the last core with the first and the last line. */
    private static void boundsOfCopies() {
        for (int core = 0; core < 4; core += 3) {
            for (int line = 0; line < 4; line += 3) {
                String copy = "(" + core + ", " + line + ")";
                SharerHome x = new SharerHome();
                is("2: load" + copy, x.load(core, line), 0);
                is("9: state" + copy, x.state(core, line), 4);
                is("17: tally" + copy, x.tally(core, line), 1);
                x.run(64);
                is("3: store" + copy, x.store(core, line, 8), 1);
                is("4: add" + copy, x.add(core, line, 8), 1);
                is("10: value" + copy, x.value(core, line), 16);
                is("11: due" + copy, x.due(core, line), 0);
                is("5: leave" + copy, x.leave(core, line), 1);
            }
        }
    }

    private static void boundsOfCoresAndLines() {
        SharerHome x = everythingThere();
        int[] homes = {2 + 4, 1 + 32 * 15, 1 + 32 * 15, 1 + 32 * 15};
        for (int i = 0; i < 4; i++) {
            is("12: home(" + i + ")", x.home(i), homes[i]);
            is("13: memory(" + i + ")", x.memory(i), i + 1);
            CHECK.due("14: waits(" + i + ")", x.waits(i), true);
            is("15: done(" + i + ")", x.done(i), 4);
            is("16: result(" + i + ")", x.result(i), 4);
        }
        is("11: due(0, 0)", x.due(0, 0), 3);
    }

    private static void wrongMessages(int scene) {
        SharerHome x = made(scene);
        int count = COUNTS[scene];
        for (int k : new int[] {-2, count, MIN, MAX, count + 1, MIN + 1, -64, 63, 64, 65, 256, -256}) {
            is("6: deliver(" + k + ") of " + count, x.deliver(k), BAD);
            is("8: carried(" + k + ") of " + count, x.carried(k), 0);
            for (int what = -1; what <= 6; what++) {
                is("7: message(" + k + ", " + what + ") of " + count, x.message(k, what), BAD);
            }
        }
        is("6: deliver(-1) of " + count, x.deliver(-1), BAD);
        is("8: carried(-1) of " + count, x.carried(-1), 0);
        unchanged("deliver, message and carried of no message", x, scene);
        if (count > 0) {
            int youngest = count - 1;
            CHECK.due("7: message(" + youngest + ", 0) is there", x.message(youngest, 0) == BAD, false);
            CHECK.due("6: deliver(" + youngest + ") is there", x.deliver(youngest) == BAD, false);
        }
    }

    private static void wrongWhat(int scene) {
        SharerHome x = made(scene);
        for (int k = 0; k < COUNTS[scene]; k++) {
            for (int what : new int[] {-1, 6, MIN, MAX, -2, 7, 8, 64, 256, -256, 65536}) {
                is("7: message(" + k + ", " + what + ")", x.message(k, what), BAD);
            }
            CHECK.due("7: message(" + k + ", 0) is there", x.message(k, 0) >= 0, true);
            CHECK.due("7: message(" + k + ", 5) is there", x.message(k, 5) >= 0, true);
        }
    }

    private static void countWhateverWhatIs(int scene) {
        SharerHome x = made(scene);
        for (int what : new int[] {MIN, -2, -1, 0, 1, 2, 3, 4, 5, 6, 7, MAX}) {
            is("7: message(-1, " + what + ")", x.message(-1, what), COUNTS[scene]);
        }
    }

    private static void wrongTimes(int scene) {
        SharerHome x = made(scene);
        for (int n : new int[] {0, -1, 65, MIN, MAX, -2, 66, -64, -65, 128, 256, 257, 65536 + 1, MIN + 1, MIN + 64}) {
            is("18: run(" + n + ")", x.run(n), 0);
        }
        unchanged("runs of 0 times", x, scene);
    }

    private static void rightTimes() {
        SharerHome x = mostMessages();
        is("18: run(1)", x.run(1), 1);
        is("18: run(2)", x.run(2), 2);
        is("18: run(64)", x.run(64), 49);
        SharerHome y = mostMessages();
        is("18: run(63)", y.run(63), 52);
    }
}
