import java.util.ArrayDeque;
import java.util.Arrays;
import java.util.HashSet;
import java.util.Set;

/**
 * Goes through every state that three cores can reach on one line, in the model. None of the cases that the tables do
 * not name comes to pass, so the program need not say what it does there; some message can always be taken; and in each
 * of these states the program answers each call as the model does, and shows the same afterwards.
 */
public final class ReachTest {

    private static final int CORES = 3;
    private static final String OPERATIONS = "lsav";

    private static final Check CHECK = new Check("ReachTest");

    /** A state of the model, with the call that led to it. */
    private static final class Place {
        final PlainModel model;
        final Place before;
        final Call call;
        final int depth;

        Place(PlainModel model, Place before, Call call) {
            this.model = model;
            this.before = before;
            this.call = call;
            depth = before == null ? 0 : before.depth + 1;
        }

        SharerHome replayed() {
            if (before == null) {
                return new SharerHome();
            }
            SharerHome x = before.replayed();
            call.onProgram(x);
            return x;
        }
    }

    /** A call: l load, s store, a add, v leave, d deliver, r run. */
    private record Call(char what, int core, int number) {

        int onModel(PlainModel m) {
            switch (what) {
                case 'v': return m.leave(core, 0);
                case 'd': return m.deliver(number);
                case 'r': return m.run(number);
                default: return m.operate(what, core, 0, number);
            }
        }

        int onProgram(SharerHome x) {
            switch (what) {
                case 'l': return x.load(core, 0);
                case 's': return x.store(core, 0, number);
                case 'a': return x.add(core, 0, number);
                case 'v': return x.leave(core, 0);
                case 'd': return x.deliver(number);
                default: return x.run(number);
            }
        }
    }

    private final Set<String> seen = new HashSet<>();
    private final ArrayDeque<Place> open = new ArrayDeque<>();

    public static void main(String[] args) {
        new ReachTest().explore();
        CHECK.end();
    }

    private void explore() {
        visit(new Place(new PlainModel(), null, null));
        while (!open.isEmpty() && !CHECK.hasFaults()) {
            Place place = open.poll();
            delivers(place);
            operates(place);
        }
        System.out.println("states reached: " + seen.size());
    }

    private void delivers(Place place) {
        int count = place.model.notes.size();
        boolean taken = count == 0;
        for (int k = -1; k <= count; k++) {
            taken |= tries(place, new Call('d', 0, k)) == 2;
        }
        CHECK.due("some message can be taken in " + keyOf(place.model), taken, true);
        tries(place, new Call('r', 0, 1));
        tries(place, new Call('r', 0, 64));
    }

    private void operates(Place place) {
        for (int core = 0; core < CORES; core++) {
            for (char what : OPERATIONS.toCharArray()) {
                tries(place, new Call(what, core, 100 + place.depth));
            }
        }
    }

    private int tries(Place place, Call call) {
        PlainModel model = place.model.copy();
        SharerHome program = place.replayed();
        int answer = call.onModel(model);
        CHECK.due(call + " in " + keyOf(place.model), call.onProgram(program), answer);
        if (!shown(model).equals(Scenes.shown(program))) {
            CHECK.fault(call + " in " + keyOf(place.model) + " shows another state than is due");
        }
        visit(new Place(model, place, call));
        return answer;
    }

    private void visit(Place place) {
        if (place.model.unnamed != null) {
            CHECK.fault(place.model.unnamed);
        }
        if (seen.add(keyOf(place.model))) {
            open.add(place);
        }
    }

    /** As Scenes.shown, of the model. */
    private static String shown(PlainModel m) {
        StringBuilder text = new StringBuilder();
        for (int k = 0; k < m.notes.size(); k++) {
            for (int what = 0; what < 6; what++) {
                text.append(m.message(k, what)).append(' ');
            }
            text.append(m.carried(k)).append(';');
        }
        for (int core = 0; core < 4; core++) {
            text.append(m.waits(core)).append(m.done(core)).append(' ').append(m.result(core)).append(';');
            for (int line = 0; line < 4; line++) {
                text.append(m.state(core, line)).append(' ').append(m.value(core, line)).append(' ');
                text.append(m.due(core, line)).append(' ').append(m.tally(core, line)).append(';');
            }
        }
        for (int line = 0; line < 4; line++) {
            text.append(m.home(line)).append(' ').append(m.memory(line)).append(';');
        }
        return text.toString();
    }

    // Only kinds 5 to 8 keep an order among themselves; the others are sorted, so that states that differ in nothing
    // but the order of these count as one.
    private static String keyOf(PlainModel model) {
        StringBuilder ordered = new StringBuilder();
        String[] free = new String[model.notes.size()];
        for (int to = 0; to < CORES; to++) {
            for (PlainModel.Note n : model.notes) {
                if (n.to == to && n.kind >= 5 && n.kind <= 8) {
                    ordered.append(textOf(n));
                }
            }
        }
        for (int k = 0; k < free.length; k++) {
            PlainModel.Note n = model.notes.get(k);
            free[k] = n.kind >= 5 && n.kind <= 8 ? "" : textOf(n);
        }
        Arrays.sort(free);
        StringBuilder key = new StringBuilder();
        for (int core = 0; core < CORES; core++) {
            key.append(model.state[core][0]).append(',').append(model.due(core, 0)).append(';');
        }
        key.append(model.home(0)).append('|').append(ordered).append('|').append(String.join("", free));
        return key.toString();
    }

    private static String textOf(PlainModel.Note n) {
        return n.kind + "." + n.to + "." + n.asker + "." + n.number + " ";
    }
}
