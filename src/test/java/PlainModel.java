import java.util.ArrayList;
import java.util.List;

/**
 * The document read a second time, in another form than the program: messages as objects, the two tables as lists of
 * cases, nothing shared with it. It also says when a case arises that the tables do not name.
 */
final class PlainModel {

    private static final int BAD = -1;
    private static final int BUSY = -2;
    private static final int HOME = 4;

    /** One message. */
    static final class Note {
        int kind;
        int line;
        int from;
        int to;
        int asker;
        int number;
        int value;

        Note copy() {
            Note n = new Note();
            n.kind = kind;
            n.line = line;
            n.from = from;
            n.to = to;
            n.asker = asker;
            n.number = number;
            n.value = value;
            return n;
        }
    }

    final List<Note> notes = new ArrayList<>();
    final int[][] state = new int[4][4];
    final int[][] value = new int[4][4];
    final int[][] dropped = new int[4][4];
    final int[][] number = new int[4][4];
    final int[][] tally = new int[4][4];
    final int[] keeping = new int[4];
    final int[] owner = new int[4];
    final boolean[][] sharer = new boolean[4][4];
    final int[] memory = new int[4];
    final char[] pending = {'-', '-', '-', '-'};
    final int[] argument = new int[4];
    final int[] done = new int[4];
    final int[] result = new int[4];
    String unnamed = null;

    PlainModel copy() {
        PlainModel m = new PlainModel();
        for (Note n : notes) {
            m.notes.add(n.copy());
        }
        for (int i = 0; i < 4; i++) {
            for (int j = 0; j < 4; j++) {
                m.state[i][j] = state[i][j];
                m.value[i][j] = value[i][j];
                m.dropped[i][j] = dropped[i][j];
                m.number[i][j] = number[i][j];
                m.tally[i][j] = tally[i][j];
                m.sharer[i][j] = sharer[i][j];
            }
            m.keeping[i] = keeping[i];
            m.owner[i] = owner[i];
            m.memory[i] = memory[i];
            m.pending[i] = pending[i];
            m.argument[i] = argument[i];
            m.done[i] = done[i];
            m.result[i] = result[i];
        }
        m.unnamed = unnamed;
        return m;
    }

    private static boolean in(int x, int... all) {
        for (int one : all) {
            if (one == x) {
                return true;
            }
        }
        return false;
    }

    private static boolean four(int x) {
        return in(x, 0, 1, 2, 3);
    }

    private void send(int kind, int line, int from, int to, int asker, int number, int value) {
        Note n = new Note();
        n.kind = kind;
        n.line = line;
        n.from = from;
        n.to = to;
        n.asker = asker;
        n.number = number;
        n.value = value;
        notes.add(n);
        if (in(kind, 0, 1, 2, 3, 4)) {
            tally[asker][line] = 0;
        }
        tally[asker][line]++;
    }

    int operate(char what, int core, int line, int v) {
        if (!four(core) || !four(line)) {
            return BAD;
        }
        if (pending[core] != '-' || !four(state[core][line])) {
            return BUSY;
        }
        pending[core] = what;
        argument[core] = v;
        int s = state[core][line];
        if (s == 2 || s == 3 || s == 1 && what == 'l') {
            completed(core, line);
            return 1;
        }
        dropped[core][line] = 0;
        number[core][line] = 0;
        send(what == 'l' ? 0 : 1, line, core, HOME, core, 0, 0);
        state[core][line] = what == 'l' ? 4 : s == 1 ? 7 : 5;
        return 0;
    }

    private void completed(int core, int line) {
        if (pending[core] == 'l') {
            result[core] = value[core][line];
        } else if (pending[core] == 's') {
            value[core][line] = argument[core];
            result[core] = argument[core];
        } else if (pending[core] == 'a') {
            result[core] = value[core][line];
            value[core][line] += argument[core];
        } else {
            unnamed = "an operation is done that isn't there";
        }
        if (pending[core] != 'l' && state[core][line] == 2) {
            state[core][line] = 3;
        }
        pending[core] = '-';
        done[core]++;
    }

    int leave(int core, int line) {
        if (!four(core) || !four(line)) {
            return BAD;
        }
        int s = state[core][line];
        if (s == 0) {
            return 0;
        }
        if (s > 3) {
            return BUSY;
        }
        send(s + 1, line, core, HOME, core, 0, s == 3 ? value[core][line] : 0);
        state[core][line] = 12 - s;
        return 1;
    }

    int deliver(int k) {
        if (k < 0 || k >= notes.size()) {
            return BAD;
        }
        Note n = notes.get(k);
        if (in(n.kind, 5, 6, 7, 8)) {
            for (Note earlier : notes.subList(0, k)) {
                if (in(earlier.kind, 5, 6, 7, 8) && earlier.line == n.line && earlier.to == n.to) {
                    return 0;
                }
            }
        }
        if (n.to == HOME ? in(n.kind, 0, 1) && keeping[n.line] == 3 : coreStalls(n)) {
            return 1;
        }
        notes.remove(k);
        if (n.to == HOME) {
            homeTakes(n);
        } else {
            coreTakes(n);
        }
        return 2;
    }

    private boolean coreStalls(Note n) {
        int s = state[n.to][n.line];
        return in(n.kind, 5, 6) && in(s, 4, 5, 6, 7, 8) || n.kind == 7 && s == 4;
    }

    private void coreTakes(Note n) {
        int c = n.to;
        int a = n.line;
        int s = state[c][a];
        String name = n.kind + "/" + s;
        switch (name) {
            case "5/2": case "5/3": case "5/9": case "5/10":
                send(9, a, c, n.asker, n.asker, 0, value[c][a]);
                send(9, a, c, HOME, n.asker, 0, value[c][a]);
                state[c][a] = s < 4 ? 1 : 11;
                break;
            case "6/2": case "6/3": case "6/9": case "6/10":
                send(9, a, c, n.asker, n.asker, 0, value[c][a]);
                state[c][a] = s < 4 ? 0 : 12;
                break;
            case "7/1": case "7/7": case "7/11":
                send(11, a, c, n.asker, n.asker, 0, 0);
                state[c][a] = s == 1 ? 0 : s == 7 ? 5 : 12;
                break;
            case "8/9": case "8/10": case "8/11": case "8/12":
                state[c][a] = 0;
                break;
            case "9/4":
                value[c][a] = n.value;
                state[c][a] = 1;
                completed(c, a);
                break;
            case "9/5": case "9/7":
                value[c][a] = n.value;
                number[c][a] = n.number;
                state[c][a] = s + 1;
                if (dropped[c][a] == n.number) {
                    state[c][a] = 3;
                    completed(c, a);
                }
                break;
            case "10/4":
                value[c][a] = n.value;
                state[c][a] = 2;
                completed(c, a);
                break;
            case "11/5": case "11/7":
                dropped[c][a]++;
                break;
            case "11/6": case "11/8":
                dropped[c][a]++;
                if (dropped[c][a] == number[c][a]) {
                    state[c][a] = 3;
                    completed(c, a);
                }
                break;
            default:
                unnamed = "a core takes kind " + n.kind + " in state " + s;
                break;
        }
    }

    private void homeTakes(Note n) {
        int a = n.line;
        int r = n.asker;
        switch (n.kind + "/" + keeping[a]) {
            case "0/0":
                send(10, a, HOME, r, r, 0, memory[a]);
                owner[a] = r;
                keeping[a] = 2;
                break;
            case "0/1":
                send(9, a, HOME, r, r, 0, memory[a]);
                sharer[a][r] = true;
                break;
            case "0/2":
                send(5, a, HOME, owner[a], r, 0, 0);
                sharer[a] = new boolean[4];
                sharer[a][owner[a]] = true;
                sharer[a][r] = true;
                keeping[a] = 3;
                break;
            case "1/0":
                send(9, a, HOME, r, r, 0, memory[a]);
                owner[a] = r;
                keeping[a] = 2;
                break;
            case "1/1":
                sharer[a][r] = false;
                send(9, a, HOME, r, r, sharers(a), memory[a]);
                for (int c = 0; c < 4; c++) {
                    if (sharer[a][c]) {
                        send(7, a, HOME, c, r, 0, 0);
                    }
                }
                sharer[a] = new boolean[4];
                owner[a] = r;
                keeping[a] = 2;
                break;
            case "1/2":
                if (owner[a] == r) {
                    unnamed = "the owner asks to write";
                }
                send(6, a, HOME, owner[a], r, 0, 0);
                owner[a] = r;
                break;
            case "9/3":
                memory[a] = n.value;
                keeping[a] = sharers(a) == 0 ? 0 : 1;
                break;
            default:
                if (in(n.kind, 2, 3, 4)) {
                    homeTakesLeave(n);
                } else {
                    unnamed = "the home takes kind " + n.kind + " with keeping " + keeping[a];
                }
                break;
        }
    }

    private void homeTakesLeave(Note n) {
        int a = n.line;
        if (keeping[a] == 2 && owner[a] == n.asker) {
            if (n.kind == 4) {
                memory[a] = n.value;
            }
            keeping[a] = 0;
        } else {
            sharer[a][n.asker] = false;
            if (keeping[a] == 1 && sharers(a) == 0) {
                keeping[a] = 0;
            }
        }
        send(8, a, HOME, n.asker, n.asker, 0, 0);
    }

    private int sharers(int line) {
        int many = 0;
        for (boolean one : sharer[line]) {
            many += one ? 1 : 0;
        }
        return many;
    }

    int message(int k, int what) {
        if (k == -1) {
            return notes.size();
        }
        if (k < 0 || k >= notes.size()) {
            return BAD;
        }
        Note n = notes.get(k);
        switch (what) {
            case 0: return n.kind;
            case 1: return n.line;
            case 2: return n.from;
            case 3: return n.to;
            case 4: return n.asker;
            case 5: return n.number;
            default: return BAD;
        }
    }

    int carried(int k) {
        return k < 0 || k >= notes.size() ? 0 : notes.get(k).value;
    }

    int state(int core, int line) {
        return four(core) && four(line) ? state[core][line] : BAD;
    }

    int value(int core, int line) {
        if (!four(core) || !four(line)) {
            return 0;
        }
        return in(state[core][line], 1, 2, 3, 7, 9, 10, 11, 6, 8) ? value[core][line] : 0;
    }

    int due(int core, int line) {
        if (!four(core) || !four(line)) {
            return BAD;
        }
        int s = state[core][line];
        return in(s, 6, 8) ? number[core][line] - dropped[core][line] : in(s, 5, 7) ? -dropped[core][line] : 0;
    }

    int home(int line) {
        if (!four(line)) {
            return BAD;
        }
        int sum = keeping[line];
        if (keeping[line] == 2) {
            sum += 4 * (owner[line] + 1);
        }
        for (int c = 0; c < 4; c++) {
            sum += sharer[line][c] ? 32 << c : 0;
        }
        return sum;
    }

    int memory(int line) {
        return four(line) ? memory[line] : 0;
    }

    boolean waits(int core) {
        return four(core) && pending[core] != '-';
    }

    int done(int core) {
        return four(core) ? done[core] : BAD;
    }

    int result(int core) {
        return four(core) ? result[core] : 0;
    }

    int tally(int core, int line) {
        return four(core) && four(line) ? tally[core][line] : BAD;
    }

    int run(int n) {
        int taken = 0;
        boolean more = n >= 1 && n <= 64;
        while (more && taken < n) {
            more = deliverFirst();
            taken += more ? 1 : 0;
        }
        return taken;
    }

    private boolean deliverFirst() {
        int waiting = notes.size();
        for (int k = 0; k < waiting; k++) {
            if (deliver(k) == 2) {
                return true;
            }
        }
        return false;
    }
}
