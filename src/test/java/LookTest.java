/** Promises 10 to 17 and 20: what is seen of the state. */
public final class LookTest {
    private static final Check check = new Check();
    private static final int LEAST = Integer.MIN_VALUE;
    private static final int GREATEST = Integer.MAX_VALUE;
    private static final int[] NO_TAPES = {-1, 4, 5, LEAST, GREATEST};

    public static void main(String[] args) {
        phaseOfEachKind();
        phaseWithoutPower();
        levelWhenNotStarted();
        levelWithoutCards();
        levelGoesUpAndDown();
        levelOfABrokenStep();
        noSuchTape();
        runsOfEachTape();
        dummiesOfEachTape();
        roleWhenNotStarted();
        roleOfEachTape();
        lengthOfNoRun();
        atNoRunOrCard();
        runsThatWereTakenOff();
        memoryOfEachCard();
        memoryOfNoCard();
        memoryOfABrokenStep();
        sortedWhenNotDone();
        sortedOfNoCard();
        check.end();
    }

    private static void phaseOfEachKind() {
        check.at("promise 10: 0 not started, 1 laying, 2 merging, 3 done");
        Story story = Story.singleRuns(2);
        check.due(Story.of(1), Call.phase(), 0);
        check.due(story, Call.phase(), 0);
        check.due(story.start(), Call.phase(), 1);
        check.due(story.start().step(1), Call.phase(), 1);
        check.due(story.start().step(2), Call.phase(), 2);
        check.due(story.start().step(3), Call.phase(), 3);
        check.due(Story.of(1).start(), Call.phase(), 3);
        check.due(story.start().step(3).clear(), Call.phase(), 0);
    }

    private static void phaseWithoutPower() {
        check.at("promise 10: 4 more when there is no power");
        Story story = Story.singleRuns(4).start();
        check.due(story.cutAfter(0), Call.phase(), 1);
        check.due(story.cutAfter(0).step(1), Call.phase(), 5);
        check.due(story.cutAfter(3).step(4), Call.phase(), 5);
        check.due(story.cutAfter(3).step(4).resume(), Call.phase(), 1);
        check.due(story.cutAfter(4).step(4), Call.phase(), 2);
        check.due(story.cutAfter(4).step(5), Call.phase(), 6);
        check.due(story.cutAfter(4).step(5).resume(), Call.phase(), 2);
        check.due(story.cutAfter(9).step(300), Call.phase(), 6);
        check.due(story.cutAfter(9).step(300).clear(), Call.phase(), 0);
        check.due(story.step(4).fault(0, 1).step(1), Call.phase(), 2);
    }

    private static void levelWhenNotStarted() {
        check.at("promise 11: 0 when sorting was not started");
        Story story = Story.singleRuns(4);
        check.due(Story.of(1), Call.level(), 0);
        check.due(story, Call.level(), 0);
        check.due(story.start(), Call.level(), 1);
        check.due(story.start().step(4).clear(), Call.level(), 0);
        check.due(story.start().step(4).clear().card(1, 1), Call.level(), 0);
        check.due(story.start().step(4).clear().card(1, 1).start(), Call.level(), 1);
    }

    private static void levelWithoutCards() {
        check.at("promise 11: 0 when there are no cards");
        check.due(Story.of(1).start(), Call.level(), 0);
        check.due(Story.of(1).start().step(1), Call.level(), 0);
        check.due(Story.of(1).card(1, 1).start(), Call.level(), 1);
    }

    private static void levelGoesUpAndDown() {
        check.at("promise 11: the level");
        Story story = Story.singleRuns(6).start();
        int[] due = {1, 1, 1, 1, 2, 2, 3, 3, 2, 1, 0};
        check.due(story, Call.level(), due[0]);
        for (int steps = 1; steps < due.length; steps++) {
            check.due(story.step(steps), Call.level(), due[steps]);
        }
    }

    private static void levelOfABrokenStep() {
        check.at("promise 11: a step that is broken off changes no level");
        Story three = Story.singleRuns(4).start().step(3);
        check.due(three.cutAfter(0).step(1), Call.level(), 1);
        check.due(three.cutAfter(0).step(1), Call.dummies(1), 0);
        check.due(three.step(1), Call.level(), 2);
        check.due(three.step(1).cutAfter(1).step(1), Call.level(), 2);
        check.due(three.step(1).fault(0, 1).step(1), Call.level(), 2);
        check.due(three.step(2), Call.level(), 1);
    }

    private static void noSuchTape() {
        check.at("promises 12 to 16: NONE when there is no such tape");
        Story story = Story.singleRuns(7);
        Story started = story.start();
        for (Story now : new Story[] {Story.of(1), story, started, started.step(8), started.step(300)}) {
            for (int bad : NO_TAPES) {
                check.due(now, Call.runs(bad), -1);
                check.due(now, Call.dummies(bad), -1);
                check.due(now, Call.role(bad), -1);
                check.due(now, Call.length(bad, 0), -1);
                check.due(now, Call.at(bad, 0, 0), -1);
            }
        }
    }

    private static void numbersAre(Story story, Call[] calls, int... due) {
        for (int k = 0; k < calls.length; k++) {
            check.due(story, calls[k], due[k]);
        }
    }

    private static void runsOfEachTape() {
        check.at("promise 12: how many runs a tape has");
        Call[] runs = {Call.runs(0), Call.runs(1), Call.runs(2), Call.runs(3)};
        Story story = Story.singleRuns(7).start();
        numbersAre(Story.of(1), runs, 0, 0, 0, 0);
        numbersAre(Story.singleRuns(7), runs, 0, 0, 0, 0);
        numbersAre(story, runs, 0, 0, 0, 0);
        numbersAre(story.step(1), runs, 1, 0, 0, 0);
        numbersAre(story.step(7), runs, 4, 2, 1, 0);
        numbersAre(story.step(8), runs, 3, 2, 1, 1);
        numbersAre(story.step(9), runs, 2, 1, 0, 2);
        numbersAre(story.step(300), runs, 0, 1, 0, 0);
        numbersAre(story.step(300).clear(), runs, 0, 0, 0, 0);
    }

    private static void dummiesOfEachTape() {
        check.at("promise 13: how many dummies a tape has");
        Call[] dummies = {Call.dummies(0), Call.dummies(1), Call.dummies(2), Call.dummies(3)};
        Story story = Story.singleRuns(6).start();
        numbersAre(Story.of(1), dummies, 0, 0, 0, 0);
        numbersAre(Story.singleRuns(6), dummies, 0, 0, 0, 0);
        numbersAre(story, dummies, 1, 1, 1, 0);
        numbersAre(story.step(1), dummies, 0, 1, 1, 0);
        numbersAre(story.step(3), dummies, 0, 0, 0, 0);
        numbersAre(story.step(6), dummies, 1, 1, 1, 0);
        numbersAre(story.step(7), dummies, 0, 0, 0, 1);
        numbersAre(story.step(9), dummies, 0, 0, 0, 0);
        numbersAre(story.step(6).clear(), dummies, 0, 0, 0, 0);
    }

    private static void roleWhenNotStarted() {
        check.at("promise 14: NONE when sorting was not started");
        for (int tape = 0; tape < 4; tape++) {
            check.due(Story.of(1), Call.role(tape), -1);
            check.due(Story.singleRuns(4), Call.role(tape), -1);
            check.due(Story.singleRuns(4).start().step(300).clear(), Call.role(tape), -1);
        }
    }

    private static void roleOfEachTape() {
        check.at("promise 14: which source a tape is, 3 for the goal");
        Call[] roles = {Call.role(0), Call.role(1), Call.role(2), Call.role(3)};
        Story story = Story.singleRuns(9).start();
        numbersAre(Story.of(1).start(), roles, 0, 1, 2, 3);
        numbersAre(story, roles, 0, 1, 2, 3);
        numbersAre(story.step(9), roles, 0, 1, 2, 3);
        numbersAre(story.step(10), roles, 0, 1, 2, 3);
        numbersAre(story.step(11), roles, 1, 2, 3, 0);
        numbersAre(story.step(12), roles, 2, 3, 0, 1);
        numbersAre(story.step(13), roles, 3, 0, 1, 2);
        numbersAre(story.step(11).clear().start(), roles, 0, 1, 2, 3);
        Story four = Story.singleRuns(17).start();
        numbersAre(four.step(300), roles, 0, 1, 2, 3);
        check.due(four.step(300), Call.length(0, 0), 17);
    }

    private static Story runsOfSeveralCards() {
        return Story.up(1, 1, 2, 0, 5, 6, 3, 2).start();
    }

    private static void lengthOfNoRun() {
        check.at("promise 15: NONE when there is none such");
        Story story = runsOfSeveralCards().step(4);
        check.due(story, Call.length(0, 0), 2);
        check.due(story, Call.length(0, 1), 1);
        check.due(story, Call.length(0, 2), -1);
        check.due(story, Call.length(1, 0), 3);
        check.due(story, Call.length(1, 1), -1);
        check.due(story, Call.length(3, 0), -1);
        for (int bad : new int[] {-1, 150, LEAST, GREATEST}) {
            check.due(story, Call.length(0, bad), -1);
            check.due(story, Call.length(3, bad), -1);
        }
        check.due(Story.of(1), Call.length(0, 0), -1);
        check.due(runsOfSeveralCards(), Call.length(0, 0), -1);
        check.due(story.clear(), Call.length(0, 0), -1);
    }

    private static void atNoRunOrCard() {
        check.at("promise 16: NONE when there is none such");
        Story story = runsOfSeveralCards().step(4);
        check.due(story, Call.at(0, 0, 0), 0);
        check.due(story, Call.at(0, 0, 1), 1);
        check.due(story, Call.at(0, 0, 2), -1);
        check.due(story, Call.at(0, 1, 0), 6);
        check.due(story, Call.at(0, 1, 1), -1);
        check.due(story, Call.at(0, 2, 0), -1);
        check.due(story, Call.at(1, 0, 2), 4);
        check.due(story, Call.at(1, 0, 3), -1);
        check.due(story, Call.at(3, 0, 0), -1);
        for (int bad : new int[] {-1, 150, LEAST, GREATEST}) {
            check.due(story, Call.at(0, bad, 0), -1);
            check.due(story, Call.at(0, 0, bad), -1);
            check.due(story, Call.at(0, 1, bad), -1);
            check.due(story, Call.at(bad, bad, bad), -1);
        }
        check.due(Story.of(1), Call.at(0, 0, 0), -1);
        check.due(runsOfSeveralCards(), Call.at(0, 0, 0), -1);
        check.due(story.clear(), Call.at(0, 0, 0), -1);
    }

    private static void runsThatWereTakenOff() {
        check.at("promises 12, 15 and 16: the first runs may have been taken off");
        Story story = runsOfSeveralCards().step(5);
        check.due(story, Call.runs(0), 1);
        check.due(story, Call.length(0, 0), 1);
        check.due(story, Call.at(0, 0, 0), 6);
        check.due(story, Call.length(0, 1), -1);
        check.due(story, Call.at(0, 1, 0), -1);
        check.due(story.step(1), Call.runs(0), 0);
        check.due(story.step(1), Call.length(0, 0), -1);
        check.due(story.step(1), Call.at(0, 0, 0), -1);
    }

    private static void memoryOfEachCard() {
        check.at("promise 17: whether a card is in memory");
        Story story = Story.up(2, 5, 6, 1, 7, 2);
        memoryIs(story, false, false, false, false, false);
        memoryIs(story.start(), true, true, false, false, false);
        memoryIs(story.start().step(1), false, false, true, false, true);
        memoryIs(story.start().step(2), false, false, false, false, false);
        memoryIs(story.start().clear(), false, false, false, false, false);
        memoryIs(story.start().step(1).clear().card(1, 1), false, false, false, false, false);
    }

    private static void memoryIs(Story story, boolean... due) {
        for (int card = 0; card < due.length; card++) {
            check.due(story, Call.memory(card), due[card]);
        }
    }

    private static void memoryOfNoCard() {
        check.at("promise 17: a card that there is not");
        Story story = Story.up(8, 4, 5).start();
        for (int bad : new int[] {-1, 2, 3, 8, 149, 150, LEAST, GREATEST}) {
            check.due(story, Call.memory(bad), false);
        }
        check.due(Story.of(8).start(), Call.memory(0), false);
        check.due(Story.of(8), Call.memory(0), false);
    }

    private static void memoryOfABrokenStep() {
        check.at("promise 17: a step that is broken off changes no memory");
        Story story = Story.up(2, 5, 6, 1, 7, 2).start();
        for (int n = 0; n < 3; n++) {
            memoryIs(story.cutAfter(n).step(1), true, true, false, false, false);
            memoryIs(story.cutAfter(n).step(1).resume(), true, true, false, false, false);
        }
        memoryIs(story.step(1).cutAfter(1).step(1), false, false, true, false, true);
    }

    private static void sortedWhenNotDone() {
        check.at("promise 20: NONE when sorting is not done");
        Story story = Story.up(2, 3, 1, 2, 1, 0);
        check.due(story, Call.sorted(0), -1);
        check.due(story.start(), Call.sorted(0), -1);
        check.due(story.start().step(1), Call.sorted(0), -1);
        check.due(story.start().step(2), Call.phase(), 2);
        check.due(story.start().step(2), Call.sorted(0), -1);
        check.due(story.start().step(2).cutAfter(4).step(1), Call.sorted(0), -1);
        check.due(story.start().step(3), Call.sorted(0), 4);
        check.due(story.start().step(3).clear(), Call.sorted(0), -1);
    }

    private static void sortedOfNoCard() {
        check.at("promise 20: NONE when there is none such");
        Story story = Story.up(2, 3, 1, 2, 1, 0).start().step(300);
        check.due("order", Sight.order(story), "4 1 3 2 0");
        check.due(story, Call.sorted(4), 0);
        for (int bad : new int[] {-1, 5, 149, 150, LEAST, GREATEST}) {
            check.due(story, Call.sorted(bad), -1);
        }
        check.due(Story.of(1).start(), Call.sorted(0), -1);
        check.due(Story.of(1).start(), Call.sorted(-1), -1);
    }
}
