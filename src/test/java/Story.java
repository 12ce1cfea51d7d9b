import java.util.ArrayList;
import java.util.List;

/**
 * A run of calls, told anew to a new object whenever something is asked about it: so no object is
 * asked more than the 512 calls for which the document binds it.
 */
final class Story {
    static final int MOST_CALLS = 512;

    private final int memory;
    private final List<Call> calls;

    private Story(int memory, List<Call> calls) {
        this.memory = memory;
        this.calls = calls;
    }

    static Story of(int memory) {
        return new Story(memory, List.of());
    }

    /** Field 0 of the cards as told, field 1 their number; the key is field 0, the lesser first. */
    static Story up(int memory, int... values) {
        Story story = of(memory).part(0, 0);
        for (int k = 0; k < values.length; k++) {
            story = story.card(values[k], k);
        }
        return story;
    }

    /** As many runs of one card each: memory holds one, and each card comes before the last one. */
    static Story singleRuns(int runs) {
        Story story = of(1).part(0, 1);
        for (int k = 0; k < runs; k++) {
            story = story.card(k, 0);
        }
        return story;
    }

    Story then(Call call) {
        List<Call> longer = new ArrayList<>(calls);
        longer.add(call);
        return new Story(memory, longer);
    }

    Story card(int a, int b) {
        return then(Call.card(a, b));
    }

    Story part(int field, int way) {
        return then(Call.part(field, way));
    }

    Story start() {
        return then(Call.start());
    }

    Story clear() {
        return then(Call.clear());
    }

    Story step(int n) {
        return then(Call.step(n));
    }

    Story fault(int tape, int n) {
        return then(Call.fault(tape, n));
    }

    Story cutAfter(int n) {
        return then(Call.cutAfter(n));
    }

    Story resume() {
        return then(Call.resume());
    }

    int memory() {
        return memory;
    }

    int callsLeft() {
        return MOST_CALLS - calls.size();
    }

    ReelOffice told() {
        if (callsLeft() < 1) {
            throw new IllegalStateException("a story leaves at least one call to be asked");
        }
        ReelOffice office = new ReelOffice(memory);
        for (Call call : calls) {
            call.on(office);
        }
        return office;
    }

    Object ask(Call call) {
        return call.on(told());
    }

    /** Long stories are named by their last calls. */
    @Override
    public String toString() {
        int from = Math.max(0, calls.size() - 6);
        String before = from == 0 ? "" : " .. " + from + " calls ..";
        return "memory " + memory + before + " " + calls.subList(from, calls.size());
    }
}
