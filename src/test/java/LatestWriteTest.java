import java.util.Random;

/**
 * What the document begins with, asked without any model of the protocol: every operation reads the latest write that
 * was done before it, one core at most may change a line, and everything comes to an end when all is delivered.
 */
public final class LatestWriteTest {

    private static final int RUNS = 4000;
    private static final int CALLS = 400;

    private static final Check CHECK = new Check("LatestWriteTest");

    private final Random random;
    private final SharerHome program = new SharerHome();
    private final int lines;
    private final int[] latest = new int[4];
    private final int[] done = new int[4];
    private final char[] operation = new char[4];
    private final int[] operand = new int[4];
    private final int[] lineOf = new int[4];
    private final int run;

    private LatestWriteTest(int run) {
        this.run = run;
        random = new Random(run * 31L + 7);
        lines = 1 + random.nextInt(4);
    }

    public static void main(String[] args) {
        for (int run = 0; run < RUNS && !CHECK.hasFaults(); run++) {
            new LatestWriteTest(run).play();
        }
        CHECK.end();
    }

    private void play() {
        for (int call = 0; call < CALLS && !CHECK.hasFaults(); call++) {
            if (random.nextInt(5) < 2) {
                program.deliver(random.nextInt(program.message(-1, 0) + 1));
            } else {
                operates();
            }
            noticesDone(call);
            looksAtCopies(call);
        }
        settles();
    }

    private void operates() {
        int core = random.nextInt(4);
        int line = random.nextInt(lines);
        int v = random.nextInt();
        if (random.nextInt(4) == 0) {
            program.leave(core, line);
            return;
        }
        if (program.waits(core) || program.state(core, line) > 3) {
            return;
        }
        operation[core] = "lsa".charAt(random.nextInt(3));
        operand[core] = v;
        lineOf[core] = line;
        if (operation[core] == 'l') {
            program.load(core, line);
        } else if (operation[core] == 's') {
            program.store(core, line, v);
        } else {
            program.add(core, line, v);
        }
    }

    // One call but run makes at most one operation done, so the order of the calls is the order of the writes.
    private void noticesDone(int call) {
        for (int core = 0; core < 4; core++) {
            if (program.done(core) == done[core]) {
                continue;
            }
            done[core]++;
            int line = lineOf[core];
            String at = "run " + run + " call " + call + ": ";
            CHECK.due(at + "done(" + core + ")", program.done(core), done[core]);
            CHECK.due(at + "waits(" + core + ")", program.waits(core), false);
            if (operation[core] == 's') {
                latest[line] = operand[core];
            }
            CHECK.due(at + "result(" + core + ")", program.result(core), latest[line]);
            if (operation[core] == 'a') {
                latest[line] += operand[core];
            }
        }
    }

    private void looksAtCopies(int call) {
        for (int line = 0; line < lines; line++) {
            int sole = 0;
            int readable = 0;
            for (int core = 0; core < 4; core++) {
                int state = program.state(core, line);
                sole += state == 2 || state == 3 ? 1 : 0;
                readable += state >= 1 && state <= 3 ? 1 : 0;
                if (state >= 1 && state <= 3) {
                    CHECK.due("run " + run + " call " + call + ": value(" + core + ", " + line + ")", program.value(core, line), latest[line]);
                }
            }
            CHECK.due("run " + run + " call " + call + ": line " + line + " has a sole copy and others", sole > 0 && readable > 1, false);
        }
    }

    private void settles() {
        program.run(64);
        program.run(64);
        CHECK.due("run " + run + ": messages at the end", program.message(-1, 0), 0);
        for (int core = 0; core < 4; core++) {
            CHECK.due("run " + run + ": waits(" + core + ") at the end", program.waits(core), false);
        }
    }
}
