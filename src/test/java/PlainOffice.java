import java.util.ArrayList;
import java.util.Comparator;
import java.util.List;

/**
 * The document written down a second time, without regard for room or speed: a step works on the
 * state itself and, when it is broken off, a copy made before is put back.
 */
final class PlainOffice {
    private static final class BrokenOff extends RuntimeException {
        private static final long serialVersionUID = 1L;
    }

    private static final class State {
        List<Integer> present = new ArrayList<>();
        List<Integer> later = new ArrayList<>();
        int upcoming;
        int[] numbers = {1, 1, 1};
        int level = 1;
        int place;
        int laid;
        int phase;
        List<List<List<Integer>>> tapes = new ArrayList<>();
        int[] dummies = new int[4];
        int first = 0;
        int second = 1;
        int third = 2;
        int goal = 3;

        State() {
            for (int tape = 0; tape < 4; tape++) {
                tapes.add(new ArrayList<>());
            }
        }

        State copy() {
            State other = new State();
            other.present.addAll(present);
            other.later.addAll(later);
            other.upcoming = upcoming;
            other.numbers = numbers.clone();
            other.level = level;
            other.place = place;
            other.laid = laid;
            other.phase = phase;
            for (int tape = 0; tape < 4; tape++) {
                for (List<Integer> run : tapes.get(tape)) {
                    other.tapes.get(tape).add(new ArrayList<>(run));
                }
            }
            other.dummies = dummies.clone();
            other.first = first;
            other.second = second;
            other.third = third;
            other.goal = goal;
            return other;
        }
    }

    private final int room;
    private List<int[]> cards = new ArrayList<>();
    private List<int[]> key = new ArrayList<>();
    private int[] faults = new int[4];
    private State state = new State();
    private int cut = -1;
    private boolean power = true;
    private int written;
    private int broken;

    PlainOffice(int memory) {
        room = memory < 1 || memory > 8 ? 4 : memory;
    }

    private static void argument(boolean good) {
        if (!good) {
            throw new IllegalArgumentException();
        }
    }

    private static void state(boolean good) {
        if (!good) {
            throw new IllegalStateException();
        }
    }

    private static boolean within(int n, int least, int most) {
        return least <= n && n <= most;
    }

    private Comparator<Integer> order() {
        Comparator<Integer> order = (x, y) -> 0;
        for (int[] part : key) {
            Comparator<Integer> byInt = switch (part[1]) {
                case 0 -> Integer::compare;
                case 1 -> (p, q) -> Integer.compare(q, p);
                case 2 -> Integer::compareUnsigned;
                default -> Comparator.comparing(p -> Math.abs((long) p));
            };
            order = order.thenComparing((Integer x) -> cards.get(x)[part[0]], byInt);
        }
        return order.thenComparing(Comparator.naturalOrder());
    }

    int card(int a, int b) {
        state(state.phase == 0 && cards.size() < 150);
        cards.add(new int[] {a, b});
        return cards.size() - 1;
    }

    int part(int field, int way) {
        argument(within(field, 0, 1) && within(way, 0, 3));
        state(state.phase == 0 && key.size() < 3);
        key.add(new int[] {field, way});
        return key.size();
    }

    int start() {
        state(state.phase == 0);
        state.phase = cards.isEmpty() ? 3 : 1;
        state.dummies = new int[] {1, 1, 1, 0};
        while (state.upcoming < room && state.upcoming < cards.size()) {
            state.present.add(state.upcoming++);
        }
        return 0;
    }

    int clear() {
        int count = cards.size();
        cards = new ArrayList<>();
        key = new ArrayList<>();
        faults = new int[4];
        state = new State();
        cut = -1;
        power = true;
        written = 0;
        broken = 0;
        return count;
    }

    int step(int n) {
        argument(within(n, 1, 300));
        state(state.phase != 0 && power);
        int made = 0;
        while (made < n && state.phase != 3) {
            State before = state.copy();
            try {
                if (state.phase == 1) {
                    lay();
                } else {
                    merge();
                }
                made++;
            } catch (BrokenOff e) {
                state = before;
                broken++;
                return made;
            }
        }
        return made;
    }

    private void write(List<Integer> run, int card) {
        if (cut == 0) {
            cut = -1;
            power = false;
            throw new BrokenOff();
        }
        cut = Math.max(cut - 1, -1);
        written++;
        run.add(card);
    }

    private void lay() {
        if (state.laid > 0) {
            findPlace();
        }
        List<Integer> run = new ArrayList<>();
        while (!state.present.isEmpty()) {
            state.present.sort(order());
            int card = state.present.get(0);
            write(run, card);
            state.present.remove(0);
            if (state.upcoming < cards.size()) {
                boolean waits = order().compare(state.upcoming, card) < 0;
                (waits ? state.later : state.present).add(state.upcoming++);
            }
        }
        state.present.addAll(state.later);
        state.later.clear();
        state.tapes.get(state.place).add(run);
        state.dummies[state.place]--;
        state.laid++;
        if (state.present.isEmpty()) {
            state.phase = 2;
        }
    }

    private void findPlace() {
        int here = state.dummies[state.place];
        if (state.place < 2 && here < state.dummies[state.place + 1]) {
            state.place++;
        } else if (here == 0) {
            int[] old = state.numbers;
            state.numbers = new int[] {old[0] + old[1], old[0] + old[2], old[0]};
            for (int tape = 0; tape < 3; tape++) {
                state.dummies[tape] += state.numbers[tape] - old[tape];
            }
            state.level++;
            state.place = 0;
        } else {
            state.place = 0;
        }
    }

    private void merge() {
        List<Integer> taken = new ArrayList<>();
        boolean anyRun = false;
        boolean readable = true;
        for (int source : new int[] {state.first, state.second, state.third}) {
            if (state.dummies[source] > 0) {
                state.dummies[source]--;
                continue;
            }
            anyRun = true;
            if (faults[source] > 0) {
                faults[source]--;
                readable = false;
            }
            taken.addAll(state.tapes.get(source).remove(0));
        }
        if (!readable) {
            throw new BrokenOff();
        }
        if (anyRun) {
            taken.sort(order());
            List<Integer> run = new ArrayList<>();
            for (int card : taken) {
                write(run, card);
            }
            state.tapes.get(state.goal).add(run);
        } else {
            state.dummies[state.goal]++;
        }
        turnRoles();
    }

    private void turnRoles() {
        if (!state.tapes.get(state.third).isEmpty() || state.dummies[state.third] > 0) {
            return;
        }
        int spent = state.third;
        state.third = state.second;
        state.second = state.first;
        state.first = state.goal;
        state.goal = spent;
        state.level--;
        if (state.level == 0) {
            state.phase = 3;
        }
    }

    int fault(int tape, int n) {
        argument(within(tape, 0, 3) && within(n, 0, 20));
        int before = faults[tape];
        faults[tape] = n;
        return before;
    }

    boolean cutAfter(int n) {
        if (!within(n, 0, 1000) || !power) {
            return false;
        }
        cut = n;
        return true;
    }

    boolean resume() {
        boolean was = power;
        power = true;
        return !was;
    }

    int phase() {
        return state.phase + (power ? 0 : 4);
    }

    int level() {
        return state.phase == 0 || cards.isEmpty() ? 0 : state.level;
    }

    int runs(int tape) {
        return within(tape, 0, 3) ? state.tapes.get(tape).size() : -1;
    }

    int dummies(int tape) {
        return within(tape, 0, 3) ? state.dummies[tape] : -1;
    }

    int role(int tape) {
        return state.phase == 0 ? -1 : List.of(state.first, state.second, state.third, state.goal).indexOf(tape);
    }

    int length(int tape, int r) {
        return within(r, 0, runs(tape) - 1) ? state.tapes.get(tape).get(r).size() : -1;
    }

    int at(int tape, int r, int i) {
        return within(i, 0, length(tape, r) - 1) ? state.tapes.get(tape).get(r).get(i) : -1;
    }

    boolean memory(int card) {
        return state.present.contains(card);
    }

    int written() {
        return written;
    }

    int broken() {
        return broken;
    }

    /** By the key alone: that the tapes bring the same order is what is to be shown. */
    int sorted(int i) {
        if (state.phase != 3 || !within(i, 0, cards.size() - 1)) {
            return -1;
        }
        List<Integer> all = new ArrayList<>();
        for (int card = 0; card < cards.size(); card++) {
            all.add(card);
        }
        all.sort(order());
        return all.get(i);
    }

    int compare(int x, int y) {
        if (!within(x, 0, cards.size() - 1) || !within(y, 0, cards.size() - 1)) {
            return 0;
        }
        return Integer.signum(order().compare(x, y));
    }

    int field(int card, int field) {
        return within(card, 0, cards.size() - 1) && within(field, 0, 1) ? cards.get(card)[field] : 0;
    }
}
