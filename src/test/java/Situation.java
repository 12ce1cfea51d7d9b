import java.util.List;

/** A story with what holds at its end, told by hand and not asked of the program. */
record Situation(String name, Story story, int phase, int cards, int parts) {
    private static final Story SEVEN = Story.up(3, 40, 30, 60, 10, 20, 50, 5);
    private static final Story RUNS = Story.singleRuns(7).start();
    private static final Story LAID = RUNS.step(7);

    /** Seven runs lie as 4, 2, 1 with 0, 1, 1 dummies, so merging steps with and without dummies come. */
    static List<Situation> all() {
        Story full = full();
        return List.of(
            new Situation("new", Story.of(3), 0, 0, 0),
            new Situation("one card", Story.of(3).card(1, 1), 0, 1, 0),
            new Situation("cards and key", SEVEN, 0, 7, 1),
            new Situation("all places taken", full, 0, 150, 3),
            new Situation("faults and a cut told", SEVEN.fault(0, 2).fault(3, 20).cutAfter(4), 0, 7, 1),
            new Situation("started", SEVEN.start(), 1, 7, 1),
            new Situation("started with all places taken", full.start(), 1, 150, 3),
            new Situation("laying", RUNS.step(4), 1, 7, 1),
            new Situation("laying, a cut to come", RUNS.step(4).cutAfter(2), 1, 7, 1),
            new Situation("laying, cut at once", RUNS.cutAfter(0).step(1), 5, 7, 1),
            new Situation("laying, cut within a run", SEVEN.start().cutAfter(2).step(9), 5, 7, 1),
            new Situation("laying again", RUNS.cutAfter(2).step(9).resume(), 1, 7, 1),
            new Situation("merging", LAID, 2, 7, 1),
            new Situation("merging, faults to come", LAID.fault(0, 1).fault(1, 20), 2, 7, 1),
            new Situation("merging, a fault met", LAID.fault(0, 3).step(1), 2, 7, 1),
            new Situation("merging, cut", LAID.step(1).cutAfter(1).step(300), 6, 7, 1),
            new Situation("merging, roles turned", LAID.step(2), 2, 7, 1),
            new Situation("done", LAID.step(300), 3, 7, 1),
            new Situation("done, all places taken", full.start().step(300), 3, 150, 3),
            new Situation("done, fault and cut to come", LAID.step(300).fault(2, 3).cutAfter(0), 3, 7, 1),
            new Situation("done without cards", Story.of(3).part(1, 3).start(), 3, 0, 1),
            new Situation("cleared", LAID.step(300).clear(), 0, 0, 0));
    }

    boolean started() {
        return phase != 0;
    }

    boolean power() {
        return phase < 4;
    }

    private static Story full() {
        Story story = Story.of(5).part(1, 3).part(0, 2).part(0, 1);
        for (int k = 0; k < 150; k++) {
            story = story.card(k * 37 % 150, k * 53 % 101 - 50);
        }
        return story;
    }
}
