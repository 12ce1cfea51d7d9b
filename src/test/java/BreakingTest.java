/** Promises 7 to 9, 18 and 19: faults, cuts, and what broken steps leave. */
public final class BreakingTest {
    private static final Check check = new Check();
    private static final int LEAST = Integer.MIN_VALUE;
    private static final int GREATEST = Integer.MAX_VALUE;

    /** Three runs of one card, so one step of merging takes a run from each of tapes 0, 1, 2. */
    private static final Story THREE = Story.singleRuns(3).start().step(3);

    public static void main(String[] args) {
        faultOfNoTape();
        faultFromNoneTo20();
        faultAnswersWhatWasToBe();
        faultInPlaceOfWhatWasTold();
        faultForEachTapeAlone();
        faultComesSoOften();
        faultsOfSeveralSources();
        faultOnlyWhereARunIsTaken();
        faultWhateverThePhase();
        cutFromNoneTo1000();
        cutThatIsNotSo();
        cutWithoutPower();
        cutBeforeTheNextCard();
        cutFromNowOn();
        cutComesOnce();
        cutInPlaceOfAnEarlierOne();
        cutAtEachCard();
        cutOfTheLongestSorting();
        cutPassesOverDummies();
        faultBeforeCut();
        resumeWhenThereIsPower();
        resumeWhenThereIsNone();
        writtenInAll();
        brokenSteps();
        brokenStepChangesNothing();
        check.end();
    }

    private static void faultOfNoTape() {
        check.at("promise 7: there is no such tape");
        for (int bad : new int[] {-1, 4, LEAST, GREATEST}) {
            check.refused(THREE, Call.fault(bad, 0), Call.ARGUMENT);
            check.refused(THREE, Call.fault(bad, 1), Call.ARGUMENT);
            check.refused(THREE, Call.fault(bad, 21), Call.ARGUMENT);
        }
        check.due(THREE, Call.fault(0, 1), 0);
        check.due(THREE, Call.fault(3, 1), 0);
    }

    private static void faultFromNoneTo20() {
        check.at("promise 7: 0 .. 20");
        for (int tape = 0; tape < 4; tape++) {
            Story told = THREE.fault(tape, 7);
            for (int bad : new int[] {-1, 21, LEAST, GREATEST}) {
                check.refused(told, Call.fault(tape, bad), Call.ARGUMENT);
            }
            check.due(told.fault(tape, 21), Call.fault(tape, 0), 7);
            check.due(told.fault(tape, -1), Call.fault(tape, 0), 7);
            check.due(told.fault(tape, 20), Call.fault(tape, 0), 20);
            check.due(told.fault(tape, 0), Call.fault(tape, 0), 0);
        }
    }

    private static void faultAnswersWhatWasToBe() {
        check.at("promise 7: answers how often it was to be before");
        Story told = THREE.fault(0, 3);
        check.due(THREE, Call.fault(0, 3), 0);
        check.due(told, Call.fault(0, 3), 3);
        check.due(told.step(1), Call.fault(0, 3), 2);
        check.due(told.step(1).step(1), Call.fault(0, 3), 1);
        check.due(told.step(1).step(1).step(1), Call.fault(0, 3), 0);
        check.due(told.step(1).step(1).step(1).step(1), Call.fault(0, 3), 0);
        check.due(told.clear(), Call.fault(0, 3), 0);
    }

    private static void faultInPlaceOfWhatWasTold() {
        check.at("promise 7: in place of what was told before");
        check.due(THREE.fault(0, 5).fault(0, 0), Call.step(1), 1);
        check.due(THREE.fault(0, 5).fault(0, 1).step(1), Call.step(1), 1);
        check.due(THREE.fault(0, 1).fault(0, 2).step(1), Call.step(1), 0);
        check.due(THREE.fault(0, 1).fault(0, 2).step(1).step(1), Call.step(1), 1);
    }

    private static void faultForEachTapeAlone() {
        check.at("promise 7: each tape has faults of its own");
        Story told = THREE.fault(0, 1).fault(1, 2).fault(2, 3).fault(3, 4);
        for (int tape = 0; tape < 4; tape++) {
            check.due(told, Call.fault(tape, 0), tape + 1);
            check.due(told.fault(tape, 9), Call.fault((tape + 1) % 4, 0), (tape + 1) % 4 + 1);
        }
        for (int tape = 0; tape < 3; tape++) {
            check.due(THREE.fault(tape, 1), Call.step(1), 0);
            check.due(THREE.fault(tape, 1).step(1), Call.step(1), 1);
        }
    }

    private static void faultComesSoOften() {
        check.at("promise 7: the next n times it cannot be read");
        for (int n : new int[] {0, 1, 2, 19, 20}) {
            Story story = THREE.fault(1, n);
            for (int k = 0; k < n; k++) {
                check.due(story, Call.step(300), 0);
                check.due(story, Call.broken(), k);
                story = story.step(300);
            }
            check.due(story, Call.broken(), n);
            check.due(story, Call.phase(), 2);
            check.due(story, Call.written(), 3);
            check.due(story, Call.step(300), 1);
            check.due("order", Sight.order(story.step(300)), "2 1 0");
        }
    }

    private static void faultsOfSeveralSources() {
        check.at("promise 7: if several sources cannot in one step, each counts");
        Story story = THREE.fault(0, 2).fault(1, 1).fault(2, 5).fault(3, 1);
        check.due(story, Call.step(1), 0);
        check.due(story.step(1), Call.broken(), 1);
        check.due(story.step(1), Call.fault(0, 0), 1);
        check.due(story.step(1), Call.fault(1, 0), 0);
        check.due(story.step(1), Call.fault(2, 0), 4);
        check.due(story.step(1), Call.fault(3, 0), 1);
        Story twice = THREE.fault(0, 2).fault(2, 1).step(1);
        check.due(twice, Call.step(1), 0);
        check.due(twice.step(1), Call.step(1), 1);
        check.due(twice.step(1), Call.broken(), 2);
    }

    private static void faultOnlyWhereARunIsTaken() {
        check.at("promise 7: that a step would take a run from a tape");
        Story nine = Story.singleRuns(9).start().fault(0, 1).fault(3, 1);
        check.due(nine, Call.step(9), 9);
        check.due(nine.step(9), Call.fault(0, 0), 1);
        Story goal = Story.singleRuns(9).start().step(9).fault(3, 1);
        check.due(goal, Call.step(300), 2);
        check.due(goal.step(2), Call.fault(3, 0), 1);
        check.due(goal.step(3), Call.fault(3, 0), 0);
        Story dummies = Story.singleRuns(7).start().step(7).fault(1, 1).fault(2, 1);
        check.due(dummies, Call.step(2), 1);
        check.due(dummies.step(1), Call.fault(1, 0), 1);
        check.due(dummies.step(1), Call.fault(2, 0), 1);
        check.due(dummies.step(2), Call.fault(1, 0), 0);
        Story alone = Story.singleRuns(6).start().step(6).fault(0, 1);
        check.due(alone, Call.step(2), 1);
        check.due(alone.step(1), Call.fault(0, 0), 1);
        check.due(alone.step(2), Call.fault(0, 0), 0);
        Story dark = THREE.cutAfter(0).step(1).fault(0, 1);
        check.due(dark.step(1), Call.fault(0, 0), 1);
        check.due(THREE.step(1).fault(3, 1).step(1), Call.fault(3, 0), 1);
    }

    private static void faultWhateverThePhase() {
        check.at("promise 7: in every phase");
        for (Situation now : Situation.all()) {
            Story told = now.story().fault(2, 20);
            check.due(told, Call.fault(2, 1), 20);
            check.due(told.fault(2, 0), Call.fault(2, 1), 0);
        }
        check.due(Story.singleRuns(3).fault(2, 1).start(), Call.step(300), 3);
    }

    private static void cutFromNoneTo1000() {
        check.at("promise 8: 0 .. 1000");
        check.due(THREE, Call.cutAfter(0), true);
        check.due(THREE, Call.cutAfter(1000), true);
        check.due(THREE.cutAfter(0), Call.step(1), 0);
        check.due(THREE.cutAfter(0).step(1), Call.phase(), 6);
        check.due(THREE.cutAfter(1000), Call.step(1), 1);
        for (Situation now : Situation.all()) {
            check.due(now.story(), Call.cutAfter(0), now.power());
            check.due(now.story(), Call.cutAfter(1000), now.power());
        }
    }

    private static void cutThatIsNotSo() {
        check.at("promise 8: false when n is not so");
        for (int bad : new int[] {-1, 1001, LEAST, GREATEST}) {
            check.refused(THREE, Call.cutAfter(bad), false);
            check.refused(THREE.cutAfter(1), Call.cutAfter(bad), false);
            check.due(THREE.cutAfter(bad), Call.step(1), 1);
            check.due(THREE.cutAfter(1).cutAfter(bad), Call.step(1), 0);
            check.due(THREE.cutAfter(1).cutAfter(bad).step(1), Call.written(), 4);
        }
    }

    private static void cutWithoutPower() {
        check.at("promise 8: false when there is no power");
        Story dark = THREE.cutAfter(2).step(1);
        for (int n : new int[] {0, 1, 1000, -1, 1001}) {
            check.refused(dark, Call.cutAfter(n), false);
            check.due(dark.cutAfter(n).resume(), Call.step(1), 1);
        }
        check.due(dark.resume(), Call.cutAfter(0), true);
        check.due(dark.resume().cutAfter(0), Call.step(1), 0);
    }

    private static void cutBeforeTheNextCard() {
        check.at("promise 8: when n more cards were written, before the next one");
        Story story = Story.singleRuns(3).start();
        check.due(story.cutAfter(2), Call.step(2), 2);
        check.due(story.cutAfter(2).step(2), Call.phase(), 1);
        check.due(story.cutAfter(2).step(2), Call.broken(), 0);
        check.due(story.cutAfter(2).step(2), Call.step(1), 0);
        check.due(story.cutAfter(2).step(3), Call.phase(), 5);
        check.due(story.cutAfter(2).step(3), Call.written(), 2);
        check.due(story.cutAfter(5), Call.step(300), 3);
        check.due(story.cutAfter(5).step(300), Call.phase(), 6);
        check.due(story.cutAfter(5).step(300), Call.written(), 5);
        check.due(story.cutAfter(6), Call.step(300), 4);
        check.due(story.cutAfter(6).step(300), Call.phase(), 3);
        check.due(story.cutAfter(6).step(300).step(300), Call.phase(), 3);
    }

    private static void cutFromNowOn() {
        check.at("promise 8: from now on");
        Story story = Story.singleRuns(9);
        check.due(story.cutAfter(2).start(), Call.step(300), 2);
        check.due(story.start().step(4).cutAfter(2), Call.step(300), 2);
        check.due(story.start().step(4).cutAfter(2).step(300), Call.written(), 6);
        check.due(story.start().cutAfter(3).step(300).resume().cutAfter(2).step(300), Call.written(), 5);
        check.due(story.start().step(9).cutAfter(4).step(300), Call.written(), 13);
        check.due(story.start().step(9).cutAfter(4), Call.step(300), 1);
    }

    private static void cutComesOnce() {
        check.at("promise 8: a cut comes once");
        Story story = Story.singleRuns(9).start();
        check.due(story.cutAfter(0).step(1).resume(), Call.step(300), 13);
        check.due(story.cutAfter(3).step(300).resume(), Call.step(300), 10);
        check.due(story.cutAfter(3).clear().card(1, 1).start(), Call.step(300), 2);
        Story between = story.cutAfter(0).clear().card(1, 1).start();
        check.due(between, Call.step(300), 2);
    }

    private static void cutInPlaceOfAnEarlierOne() {
        check.at("promise 8: a later cut stands in place of an earlier one");
        Story story = Story.singleRuns(9).start();
        check.due(story.cutAfter(1).cutAfter(3), Call.step(300), 3);
        check.due(story.cutAfter(5).step(2).cutAfter(0), Call.step(300), 0);
        check.due(story.cutAfter(5).step(2).cutAfter(0).step(1).resume(), Call.step(300), 11);
        check.due(story.cutAfter(0).cutAfter(1000), Call.step(300), 13);
    }

    private static Story eleven(int memory) {
        return Story.up(memory, 50, 30, 60, 10, 70, 80, 55, 20, 40, 65, 5).start();
    }

    /** Whichever card the cut comes before: the step's start is seen again, and the order is the same. */
    private static void cutAtEachCard() {
        check.at("promise 8: at each card");
        for (int memory = 1; memory <= 3; memory++) {
            Story start = eleven(memory);
            int all = (Integer) start.step(300).ask(Call.written());
            check.due("all cards can be written", start.cutAfter(all).step(300).ask(Call.phase()), 3);
            for (int n = 0; n < all; n++) {
                Story cut = start.cutAfter(n);
                int made = (Integer) cut.ask(Call.step(300));
                Story before = made == 0 ? start : start.step(made);
                Story dark = cut.step(300);
                check.due(dark, Call.phase(), (Integer) before.ask(Call.phase()) + 4);
                check.due(dark, Call.written(), n);
                check.due(dark, Call.broken(), 1);
                check.due("state", Sight.view(dark.resume()), Sight.view(before));
                Story end = dark.resume().step(300);
                check.due("end", Sight.view(end), Sight.view(start.step(300)));
                check.due("order", Sight.order(end), "10 3 7 1 8 0 6 2 9 4 5");
            }
        }
    }

    private static void cutOfTheLongestSorting() {
        check.at("promise 8: behind many cards");
        Story story = Story.singleRuns(150).start();
        check.due(story.step(300), Call.written(), 901);
        check.due(story.cutAfter(900), Call.step(300), 245);
        check.due(story.cutAfter(900).step(300), Call.phase(), 6);
        check.due(story.cutAfter(900).step(300), Call.written(), 900);
        check.due(story.cutAfter(901), Call.step(300), 246);
        check.due(story.cutAfter(1000), Call.step(300), 246);
        check.due(story.cutAfter(1000).step(300), Call.phase(), 3);
    }

    private static void cutPassesOverDummies() {
        check.at("promise 8: a step that writes no card is not cut");
        Story story = Story.singleRuns(6).start().step(6).cutAfter(0);
        check.due(story, Call.step(1), 1);
        check.due(story.step(1), Call.phase(), 2);
        check.due(story, Call.step(2), 1);
        check.due(story.step(2), Call.phase(), 6);
    }

    private static void faultBeforeCut() {
        check.at("a source that cannot be read breaks the step off before it writes");
        Story story = THREE.cutAfter(0).fault(2, 1);
        check.due(story, Call.step(1), 0);
        check.due(story.step(1), Call.phase(), 2);
        check.due(story.step(1).step(1), Call.phase(), 6);
        check.due(story.step(1).step(1), Call.broken(), 2);
        check.due(THREE.cutAfter(1).fault(2, 1).step(1), Call.written(), 3);
    }

    private static void resumeWhenThereIsPower() {
        check.at("promise 9: false when it is there");
        Story story = Story.singleRuns(2);
        check.refused(Story.of(1), Call.resume(), false);
        check.refused(story, Call.resume(), false);
        check.refused(story.start(), Call.resume(), false);
        check.refused(story.start().cutAfter(0), Call.resume(), false);
        check.due(story.start().cutAfter(0).resume(), Call.step(1), 0);
        check.refused(story.start().step(3), Call.resume(), false);
        check.refused(story.start().cutAfter(0).step(1).resume(), Call.resume(), false);
        check.refused(story.start().cutAfter(0).step(1).clear(), Call.resume(), false);
        check.refused(story.start().step(2).fault(0, 1).step(1), Call.resume(), false);
    }

    private static void resumeWhenThereIsNone() {
        check.at("promise 9: power comes again");
        Story laying = Story.singleRuns(2).start().cutAfter(1).step(300);
        check.due(laying, Call.resume(), true);
        check.due(laying.resume(), Call.phase(), 1);
        check.due(laying.resume(), Call.step(300), 2);
        Story merging = THREE.cutAfter(2).step(300);
        check.due(merging, Call.resume(), true);
        check.due(merging.resume(), Call.phase(), 2);
        check.due(merging.resume(), Call.written(), 5);
        check.due(merging.resume(), Call.broken(), 1);
        check.due(merging.resume(), Call.step(300), 1);
    }

    private static void writtenInAll() {
        check.at("promise 18: how many cards were written in all");
        Story story = Story.up(4, 1, 2, 3, 4, 5);
        check.due(story, Call.written(), 0);
        check.due(story.start(), Call.written(), 0);
        check.due(story.start().step(1), Call.written(), 5);
        check.due(story.start().step(2), Call.written(), 10);
        check.due(story.start().step(300).step(300), Call.written(), 10);
        Story cut = story.start().cutAfter(3).step(1);
        check.due(cut, Call.written(), 3);
        check.due(cut.resume(), Call.written(), 3);
        check.due(cut.resume().step(1), Call.written(), 8);
        check.due(cut.resume().step(1).cutAfter(4).step(1), Call.written(), 12);
        check.due(cut.resume().step(1).cutAfter(4).step(1).resume().step(1), Call.written(), 17);
        check.due(story.start().step(1).fault(0, 1).step(1), Call.written(), 5);
        check.due(cut.clear(), Call.written(), 0);
        check.due(Story.of(1).start().step(1), Call.written(), 0);
    }

    private static void brokenSteps() {
        check.at("promise 19: how many steps were broken off");
        Story story = THREE;
        check.due(Story.of(1), Call.broken(), 0);
        check.due(story, Call.broken(), 0);
        check.due(story.cutAfter(1), Call.broken(), 0);
        check.due(story.cutAfter(1).step(1), Call.broken(), 1);
        check.due(story.cutAfter(1).step(1).step(1), Call.broken(), 1);
        check.due(story.cutAfter(1).step(1).resume().fault(0, 2).step(300), Call.broken(), 2);
        check.due(story.cutAfter(1).step(1).resume().fault(0, 2).step(300).step(300), Call.broken(), 3);
        check.due(story.fault(0, 1).fault(1, 1).fault(2, 1).step(300), Call.broken(), 1);
        check.due(story.step(0), Call.broken(), 0);
        check.due(story.step(300), Call.broken(), 0);
        check.due(story.step(300).step(300), Call.broken(), 0);
        check.due(story.cutAfter(1).step(1).clear(), Call.broken(), 0);
        check.due(Story.singleRuns(3).start().cutAfter(0).step(1), Call.broken(), 1);
    }

    /** Behind each number of steps, a fault or a cut at the step's first card shows what it left. */
    private static void brokenStepChangesNothing() {
        check.at("a step that is broken off changes nothing");
        Story start = Story.singleRuns(10).start();
        for (int made = 0; made < 18; made++) {
            Story before = made == 0 ? start : start.step(made);
            check.due("cut", Sight.view(before.cutAfter(0).step(1).resume()), viewAfterCut(before));
        }
        for (int made = 10; made < 18; made++) {
            Story before = start.step(made);
            for (int tape = 0; tape < 4; tape++) {
                Story after = before.fault(tape, 1).step(1);
                boolean met = after.ask(Call.fault(tape, 0)).equals(0);
                check.due("fault of tape " + tape, Sight.view(after), Sight.view(met ? before : before.step(1)));
                check.due(after, Call.broken(), met ? 1 : 0);
            }
        }
    }

    private static String viewAfterCut(Story before) {
        boolean cut = before.cutAfter(0).ask(Call.step(1)).equals(0);
        return Sight.view(cut ? before : before.step(1));
    }
}
