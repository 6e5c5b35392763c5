import java.util.Random;

/** Long runs of mixed calls, each answer and the whole visible state compared with PlainModel's. */
public final class RandomRunsTest {

    private static final int RUNS = 800;
    private static final int CALLS = 512;
    private static final int[] ODD = {-1, 4, 5, 64, 65, -2, Integer.MAX_VALUE, Integer.MIN_VALUE};

    private static final Check CHECK = new Check("RandomRunsTest");

    private final Random random;
    private final SharerHome program = new SharerHome();
    private final PlainModel model = new PlainModel();
    private final int lines;
    private final int deliveries;
    private final int run;

    private RandomRunsTest(int run) {
        this.run = run;
        random = new Random(run);
        lines = 1 + random.nextInt(4);
        deliveries = 20 + random.nextInt(60);
    }

    public static void main(String[] args) {
        int mostWaiting = 0;
        for (int run = 0; run < RUNS && !CHECK.hasFaults(); run++) {
            mostWaiting = Math.max(mostWaiting, new RandomRunsTest(run).play());
        }
        System.out.println("most messages that waited at once: " + mostWaiting);
        CHECK.end();
    }

    private int play() {
        int mostWaiting = 0;
        for (int call = 0; call < CALLS && !CHECK.hasFaults(); call++) {
            String at = "run " + run + " call " + call + ": ";
            if (random.nextInt(100) < deliveries) {
                delivers(at);
            } else {
                operates(at);
            }
            comparesAll(at);
            mostWaiting = Math.max(mostWaiting, program.message(-1, 0));
        }
        return mostWaiting;
    }

    private int anyOf(int bound) {
        return random.nextInt(60) == 0 ? ODD[random.nextInt(ODD.length)] : random.nextInt(bound);
    }

    private int anyNumber() {
        return random.nextInt(4) == 0 ? random.nextInt() : random.nextInt(9) - 4;
    }

    private void operates(String at) {
        int core = anyOf(4);
        int line = anyOf(lines);
        int v = anyNumber();
        switch (random.nextInt(4)) {
            case 0:
                CHECK.due(at + "load(" + core + ", " + line + ")", program.load(core, line), model.operate('l', core, line, 0));
                break;
            case 1:
                CHECK.due(at + "store(" + core + ", " + line + ", " + v + ")", program.store(core, line, v), model.operate('s', core, line, v));
                break;
            case 2:
                CHECK.due(at + "add(" + core + ", " + line + ", " + v + ")", program.add(core, line, v), model.operate('a', core, line, v));
                break;
            default:
                CHECK.due(at + "leave(" + core + ", " + line + ")", program.leave(core, line), model.leave(core, line));
                break;
        }
    }

    private void delivers(String at) {
        if (random.nextInt(8) == 0) {
            int n = anyOf(random.nextInt(6) == 0 ? 65 : 4);
            CHECK.due(at + "run(" + n + ")", program.run(n), model.run(n));
        } else {
            int k = anyOf(model.notes.size() + 1);
            CHECK.due(at + "deliver(" + k + ")", program.deliver(k), model.deliver(k));
        }
    }

    private void comparesAll(String at) {
        if (model.unnamed != null) {
            CHECK.fault(at + model.unnamed);
        }
        for (int k = -2; k <= model.notes.size(); k++) {
            for (int what = -1; what <= 6; what++) {
                CHECK.due(at + "message(" + k + ", " + what + ")", program.message(k, what), model.message(k, what));
            }
            CHECK.due(at + "carried(" + k + ")", program.carried(k), model.carried(k));
        }
        for (int line = -1; line <= 4; line++) {
            CHECK.due(at + "home(" + line + ")", program.home(line), model.home(line));
            CHECK.due(at + "memory(" + line + ")", program.memory(line), model.memory(line));
        }
        for (int core = -1; core <= 4; core++) {
            CHECK.due(at + "waits(" + core + ")", program.waits(core), model.waits(core));
            CHECK.due(at + "done(" + core + ")", program.done(core), model.done(core));
            CHECK.due(at + "result(" + core + ")", program.result(core), model.result(core));
            for (int line = -1; line <= 4; line++) {
                comparesCopy(at, core, line);
            }
        }
    }

    private void comparesCopy(String at, int core, int line) {
        String copy = "(" + core + ", " + line + ")";
        CHECK.due(at + "state" + copy, program.state(core, line), model.state(core, line));
        CHECK.due(at + "value" + copy, program.value(core, line), model.value(core, line));
        CHECK.due(at + "due" + copy, program.due(core, line), model.due(core, line));
        CHECK.due(at + "tally" + copy, program.tally(core, line), model.tally(core, line));
    }
}
