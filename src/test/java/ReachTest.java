import java.util.ArrayDeque;
import java.util.Arrays;
import java.util.HashSet;
import java.util.Set;

/**
 * Goes through every state that three cores can reach on one line, in the model: none of the cases that the tables do
 * not name comes to pass, so the program need not say what it does there; and some message can always be taken.
 */
public final class ReachTest {

    private static final int CORES = 3;

    private static final Check CHECK = new Check("ReachTest");

    private final Set<String> seen = new HashSet<>();
    private final ArrayDeque<PlainModel> open = new ArrayDeque<>();

    public static void main(String[] args) {
        new ReachTest().explore();
        CHECK.end();
    }

    private void explore() {
        visit(new PlainModel());
        while (!open.isEmpty() && !CHECK.hasFaults()) {
            PlainModel model = open.poll();
            delivers(model);
            operates(model);
        }
        System.out.println("states reached: " + seen.size());
    }

    private void delivers(PlainModel model) {
        boolean taken = model.notes.isEmpty();
        for (int k = 0; k < model.notes.size(); k++) {
            PlainModel next = model.copy();
            if (next.deliver(k) == 2) {
                taken = true;
                visit(next);
            }
        }
        CHECK.due("some message can be taken in " + keyOf(model), taken, true);
    }

    private void operates(PlainModel model) {
        for (int core = 0; core < CORES; core++) {
            PlainModel loads = model.copy();
            loads.operate('l', core, 0, 0);
            visit(loads);
            PlainModel stores = model.copy();
            stores.operate('s', core, 0, 0);
            visit(stores);
            PlainModel leaves = model.copy();
            leaves.leave(core, 0);
            visit(leaves);
        }
    }

    private void visit(PlainModel model) {
        if (model.unnamed != null) {
            CHECK.fault(model.unnamed);
        }
        if (seen.add(keyOf(model))) {
            open.add(model);
        }
    }

    // Only kinds 5 to 8 keep an order among themselves; the others are sorted, so that states that differ in nothing
    // but the order of these count as one.
    private static String keyOf(PlainModel model) {
        StringBuilder ordered = new StringBuilder();
        String[] free = new String[model.notes.size()];
        Arrays.fill(free, "");
        for (int to = 0; to < CORES; to++) {
            for (PlainModel.Note n : model.notes) {
                if (n.to == to && n.kind >= 5 && n.kind <= 8) {
                    ordered.append(textOf(n));
                }
            }
        }
        for (int k = 0; k < free.length; k++) {
            PlainModel.Note n = model.notes.get(k);
            free[k] = n.kind >= 5 && n.kind <= 8 ? "" : textOf(n);
        }
        Arrays.sort(free);
        StringBuilder key = new StringBuilder();
        for (int core = 0; core < CORES; core++) {
            key.append(model.state[core][0]).append(',').append(model.due(core, 0)).append(';');
        }
        key.append(model.home(0)).append('|').append(ordered).append('|').append(String.join("", free));
        return key.toString();
    }

    private static String textOf(PlainModel.Note n) {
        return n.kind + "." + n.to + "." + n.asker + "." + n.number + " ";
    }
}
