/** Promise 6, and the terms of laying, the plan and merging. */
public final class SortingTest {
    private static final Check check = new Check();
    private static final int LEAST = Integer.MIN_VALUE;
    private static final int GREATEST = Integer.MAX_VALUE;

    public static void main(String[] args) {
        stepsFromOneTo300();
        stepsThatAreNotSo();
        stepsWhenNotStarted();
        stepsWithoutPower();
        stepsUntilDone();
        stepsUntilOneIsBroken();
        manyStepsAreAsManySingleOnes();
        memoryOfTwo();
        memoryLargerThanTheCards();
        cardForThePresentOrTheNextRun();
        lastCardEndsLaying();
        oneRunOf150Cards();
        placesOfThirteenRuns();
        levelsOfThePlan();
        placesOf150Runs();
        mergingWithoutDummies();
        mergingOfDummiesAlone();
        mergingWithSomeDummies();
        thirdSourceWithDummiesLeft();
        mergingOfOneAndTwoRuns();
        mergingEqualCards();
        orderOf150Cards();
        check.end();
    }

    private static void stepsFromOneTo300() {
        check.at("promise 6: makes up to n steps (1 .. 300)");
        Story story = Story.singleRuns(9).start();
        check.due(story, Call.step(1), 1);
        check.due(story, Call.step(2), 2);
        check.due(story.step(2), Call.runs(1), 1);
        check.due(story.step(2), Call.runs(2), 0);
        check.due(story, Call.step(300), 13);
        check.due(story, Call.step(299), 13);
    }

    private static void stepsThatAreNotSo() {
        check.at("promise 6: n is not so");
        Story story = Story.singleRuns(4);
        for (int bad : new int[] {0, 301, -1, LEAST, GREATEST}) {
            check.refused(story, Call.step(bad), Call.ARGUMENT);
            check.refused(story.start(), Call.step(bad), Call.ARGUMENT);
            check.refused(story.start().step(4), Call.step(bad), Call.ARGUMENT);
            check.refused(story.start().step(300), Call.step(bad), Call.ARGUMENT);
            check.refused(story.start().cutAfter(0).step(1), Call.step(bad), Call.ARGUMENT);
        }
    }

    private static void stepsWhenNotStarted() {
        check.at("promise 6: sorting was not started");
        check.refused(Story.of(1), Call.step(1), Call.STATE);
        check.refused(Story.singleRuns(4), Call.step(1), Call.STATE);
        check.refused(Story.singleRuns(4), Call.step(300), Call.STATE);
        check.refused(Story.singleRuns(4).start().step(2).clear(), Call.step(1), Call.STATE);
    }

    private static void stepsWithoutPower() {
        check.at("promise 6: there is no power");
        Story laying = Story.singleRuns(4).start().cutAfter(2).step(300);
        check.refused(laying, Call.step(1), Call.STATE);
        check.refused(laying, Call.step(300), Call.STATE);
        Story merging = Story.singleRuns(4).start().step(4).cutAfter(0).step(1);
        check.refused(merging, Call.step(1), Call.STATE);
        check.due(merging.step(1).step(1), Call.broken(), 1);
        check.due(merging.resume(), Call.step(1), 1);
    }

    private static void stepsUntilDone() {
        check.at("promise 6: fewer, when sorting is done");
        Story story = Story.singleRuns(9).start();
        check.due(story, Call.step(12), 12);
        check.due(story.step(12), Call.phase(), 2);
        check.due(story, Call.step(13), 13);
        check.due(story.step(13), Call.phase(), 3);
        check.due(story, Call.step(14), 13);
        check.due(story.step(12), Call.step(1), 1);
        check.due(story.step(13), Call.step(1), 0);
        check.due(story.step(13), Call.step(300), 0);
        check.same("steps when it is done", story.step(13).step(300), story.step(13));
        check.due(Story.of(1).start(), Call.step(1), 0);
    }

    private static void stepsUntilOneIsBroken() {
        check.at("promise 6: fewer, when one was broken off");
        Story story = Story.singleRuns(9).start();
        check.due(story.cutAfter(4), Call.step(300), 4);
        check.due(story.cutAfter(4), Call.step(5), 4);
        check.due(story.cutAfter(4), Call.step(4), 4);
        check.due(story.cutAfter(0), Call.step(1), 0);
        check.due("the steps before stay", Sight.view(story.cutAfter(4).step(300).resume()), Sight.view(story.step(4)));
        check.due(story.fault(1, 1), Call.step(300), 9);
        check.due(story.fault(1, 1), Call.step(10), 9);
        check.due(story.fault(1, 1), Call.step(9), 9);
        check.due(story.fault(3, 1), Call.step(300), 11);
        check.due(story.fault(3, 1).step(300), Call.step(300), 2);
    }

    private static void manyStepsAreAsManySingleOnes() {
        check.at("promise 6: n steps are n times one step");
        Story story = Story.singleRuns(11).start();
        Story single = story;
        for (int n = 1; n <= 19; n++) {
            single = single.step(1);
            check.same(n + " steps", story.step(n), single);
        }
        check.due(single, Call.phase(), 3);
    }

    private static void memoryOfTwo() {
        check.at("laying: the one that comes first is written, the next card comes in its stead");
        Story story = Story.up(2, 5, 3, 9, 2, 7, 1, 8).start();
        check.due("first run", Sight.view(story.step(1)),
                "1 level 1; 0(0)[1 0 2]; 1(1); 2(1); 3(0); memory 3 4");
        check.due("second run", Sight.view(story.step(2)),
                "1 level 1; 0(0)[1 0 2]; 1(0)[3 4 6]; 2(1); 3(0); memory 5");
        check.due("third run", Sight.view(story.step(3)),
                "2 level 1; 0(0)[1 0 2]; 1(0)[3 4 6]; 2(0)[5]; 3(0); memory");
    }

    private static void memoryLargerThanTheCards() {
        check.at("laying: the next card, if there is one");
        for (int memory = 3; memory <= 8; memory++) {
            Story story = Story.up(memory, 5, 3, 4).start();
            check.due("run", Sight.view(story.step(1)), "2 level 1; 0(0)[1 2 0]; 1(1); 2(1); 3(0); memory");
        }
        Story one = Story.up(8, 5).start();
        check.due("run of one", Sight.view(one.step(1)), "2 level 1; 0(0)[0]; 1(1); 2(1); 3(0); memory");
    }

    private static void cardForThePresentOrTheNextRun() {
        check.at("laying: for the next run, if it comes before the one just written, else for the present one");
        check.due("equal", Sight.tape(Story.up(1, 4, 4, 4).start().step(1), 0), "(0)[0 1 2]");
        check.due("greater by 1", Sight.tape(Story.up(1, 4, 5).start().step(1), 0), "(0)[0 1]");
        check.due("less by 1", Sight.tape(Story.up(1, 4, 3).start().step(1), 0), "(0)[0]");
        check.due("equal to what was written, less than what is in memory",
                Sight.tape(Story.up(2, 4, 9, 4).start().step(1), 0), "(0)[0 2 1]");
        check.due("less than what was written, greater than nothing in memory",
                Sight.tape(Story.up(2, 4, 9, 3, 2).start().step(1), 0), "(0)[0 1]");
        check.due("then they make the next run",
                Sight.tape(Story.up(2, 4, 9, 3, 2).start().step(2), 1), "(0)[3 2]");
        check.due("least behind greatest", Sight.tape(Story.up(1, GREATEST, LEAST).start().step(2), 1), "(0)[1]");
        check.due("greatest behind least", Sight.tape(Story.up(1, LEAST, GREATEST).start().step(1), 0), "(0)[0 1]");
    }

    private static void lastCardEndsLaying() {
        check.at("laying ends with the step in which the last card is written");
        Story story = Story.singleRuns(4).start();
        check.due(story.step(3), Call.phase(), 1);
        check.due(story.step(4), Call.phase(), 2);
        check.due(Story.up(1, 7).start(), Call.phase(), 1);
        check.due(Story.up(1, 7).start().step(1), Call.phase(), 2);
        Story waiting = Story.up(2, 5, 6, 1).start();
        check.due(waiting.step(1), Call.phase(), 1);
        check.due(waiting.step(1), Call.memory(2), true);
        check.due(waiting.step(2), Call.phase(), 2);
    }

    private static void oneRunOf150Cards() {
        check.at("laying: one run of all cards");
        int[] values = new int[150];
        for (int k = 0; k < 150; k++) {
            values[k] = k;
        }
        for (int memory = 1; memory <= 8; memory++) {
            Story laid = Story.up(memory, values).start().step(1);
            check.due(laid, Call.phase(), 2);
            check.due(laid, Call.length(0, 0), 150);
            check.due(laid, Call.at(0, 0, 149), 149);
            check.due(laid, Call.at(0, 0, 150), -1);
            check.due(laid.step(1), Call.length(3, 0), 150);
            check.due(laid.step(1), Call.phase(), 3);
            check.due(laid.step(1), Call.sorted(149), 149);
            check.due(laid.step(1), Call.written(), 300);
        }
    }

    private static void placesOfThirteenRuns() {
        check.at("the plan: before each run but the first one the place is found");
        String[] due = {
            "1 (0)[0] (1) (1)",
            "1 (0)[0] (0)[1] (1)",
            "1 (0)[0] (0)[1] (0)[2]",
            "2 (0)[0][3] (1)[1] (0)[2]",
            "2 (0)[0][3] (0)[1][4] (0)[2]",
            "3 (1)[0][3][5] (1)[1][4] (1)[2]",
            "3 (0)[0][3][5][6] (1)[1][4] (1)[2]",
            "3 (0)[0][3][5][6] (0)[1][4][7] (1)[2]",
            "3 (0)[0][3][5][6] (0)[1][4][7] (0)[2][8]",
            "4 (2)[0][3][5][6][9] (3)[1][4][7] (2)[2][8]",
            "4 (2)[0][3][5][6][9] (2)[1][4][7][10] (2)[2][8]",
            "4 (1)[0][3][5][6][9][11] (2)[1][4][7][10] (2)[2][8]",
            "4 (1)[0][3][5][6][9][11] (1)[1][4][7][10][12] (2)[2][8]",
        };
        for (int k = 0; k < due.length; k++) {
            Story story = Story.singleRuns(14).start().step(k + 1);
            String got = story.ask(Call.level()) + " " + Sight.tape(story, 0) + " " + Sight.tape(story, 1)
                    + " " + Sight.tape(story, 2);
            check.due("after run " + k, got, due[k]);
        }
    }

    /** Each level holds x + y + z runs; one more makes the next level with its numbers less one. */
    private static void levelsOfThePlan() {
        check.at("the plan: the numbers become x + y, x + z, x");
        int[][] numbers = {
            {1, 1, 1}, {2, 2, 1}, {4, 3, 2}, {7, 6, 4}, {13, 11, 7}, {24, 20, 13}, {44, 37, 24}, {81, 68, 44},
        };
        Story story = Story.singleRuns(150).start();
        for (int level = 1; level <= 7; level++) {
            int[] now = numbers[level - 1];
            int[] next = numbers[level];
            int all = now[0] + now[1] + now[2];
            planIs(story.step(all), level, now, new int[] {0, 0, 0});
            int[] left = {next[0] - now[0] - 1, next[1] - now[1], next[2] - now[2]};
            planIs(story.step(all + 1), level + 1, new int[] {now[0] + 1, now[1], now[2]}, left);
        }
    }

    private static void planIs(Story story, int level, int[] runs, int[] dummies) {
        check.due(story, Call.level(), level);
        for (int tape = 0; tape < 3; tape++) {
            check.due(story, Call.runs(tape), runs[tape]);
            check.due(story, Call.dummies(tape), dummies[tape]);
        }
        check.due(story, Call.runs(3), 0);
        check.due(story, Call.dummies(3), 0);
    }

    private static void placesOf150Runs() {
        check.at("the plan: 150 runs");
        Story story = Story.singleRuns(150).start().step(150);
        check.due(story, Call.phase(), 2);
        planIs(story, 8, new int[] {67, 54, 29}, new int[] {14, 14, 15});
        check.due(story, Call.at(1, 53, 0), 149);
        check.due(story, Call.at(1, 54, 0), -1);
        check.due(story, Call.at(0, 66, 0), 148);
        check.due(story, Call.at(0, 67, 0), -1);
        check.due(story, Call.length(0, 66), 1);
        check.due(story, Call.length(0, 67), -1);
        check.due(Story.singleRuns(150).start(), Call.step(300), 246);
        check.due(story.step(300), Call.written(), 901);
    }

    private static void mergingWithoutDummies() {
        check.at("merging: the first run of each source");
        Story story = Story.singleRuns(9).start().step(9);
        String[] due = {
            "2 level 3; 0(0)[0][3][5][6]; 1(0)[1][4][7]; 2(0)[2][8]; 3(0); memory",
            "2 level 3; 0(0)[3][5][6]; 1(0)[4][7]; 2(0)[8]; 3(0)[2 1 0]; memory",
            "2 level 2; 1(0)[5][6]; 2(0)[7]; 3(0); 0(0)[2 1 0][8 4 3]; memory",
            "2 level 1; 2(0)[6]; 3(0); 0(0)[7 5 2 1 0]; 1(0)[8 4 3]; memory",
            "3 level 0; 3(0); 0(0)[8 7 6 5 4 3 2 1 0]; 1(0); 2(0); memory",
        };
        check.due("laid", Sight.view(story), due[0]);
        for (int k = 1; k < due.length; k++) {
            check.due("merge " + k, Sight.view(story.step(k)), due[k]);
        }
        check.due(story.step(4), Call.written(), 29);
    }

    private static void mergingOfDummiesAlone() {
        check.at("merging: if each source has a dummy, each has one less, and the goal one more");
        Story story = Story.singleRuns(6).start().step(6);
        check.due("laid", Sight.view(story),
                "2 level 3; 0(1)[0][3][5]; 1(1)[1][4]; 2(1)[2]; 3(0); memory");
        check.due(story, Call.step(1), 1);
        check.due("merge 1", Sight.view(story.step(1)),
                "2 level 3; 0(0)[0][3][5]; 1(0)[1][4]; 2(0)[2]; 3(1); memory");
        check.due(story.step(1), Call.written(), 6);
        check.due("merge 2", Sight.view(story.step(2)),
                "2 level 2; 1(0)[3][5]; 2(0)[4]; 3(0); 0(1)[2 1 0]; memory");
        check.due("merge 3", Sight.view(story.step(3)),
                "2 level 1; 2(0)[5]; 3(0); 0(0)[4 3]; 1(0)[2 1 0]; memory");
        check.due("merge 4", Sight.view(story.step(4)),
                "3 level 0; 3(0); 0(0)[5 4 3 2 1 0]; 1(0); 2(0); memory");
    }

    private static void mergingWithSomeDummies() {
        check.at("merging: each source that has a dummy has one less, of the others the first run is taken");
        Story seven = Story.singleRuns(7).start().step(7);
        check.due("one run", Sight.view(seven.step(1)),
                "2 level 3; 0(0)[3][5][6]; 1(0)[1][4]; 2(0)[2]; 3(0)[0]; memory");
        check.due(seven.step(1), Call.written(), 8);
        Story eight = Story.singleRuns(8).start().step(8);
        check.due("two runs", Sight.view(eight.step(1)),
                "2 level 3; 0(0)[3][5][6]; 1(0)[4][7]; 2(0)[2]; 3(0)[1 0]; memory");
        Story four = Story.singleRuns(4).start().step(4);
        check.due("a dummy in the midst", Sight.view(four.step(1)),
                "2 level 1; 1(0)[3]; 2(0)[1]; 3(0); 0(0)[2 0]; memory");
    }

    private static void thirdSourceWithDummiesLeft() {
        check.at("merging: if the third source has no runs and no dummies then");
        Story story = Story.singleRuns(10).start().step(10);
        check.due("laid", Sight.view(story),
                "2 level 4; 0(2)[0][3][5][6][9]; 1(3)[1][4][7]; 2(2)[2][8]; 3(0); memory");
        check.due("dummies and runs left", Sight.view(story.step(2)),
                "2 level 4; 0(0)[0][3][5][6][9]; 1(1)[1][4][7]; 2(0)[2][8]; 3(2); memory");
        check.due("runs left", Sight.view(story.step(3)),
                "2 level 4; 0(0)[3][5][6][9]; 1(0)[1][4][7]; 2(0)[8]; 3(2)[2 0]; memory");
        check.due("nothing left", Sight.view(story.step(4)),
                "2 level 3; 1(0)[5][6][9]; 2(0)[4][7]; 3(0); 0(2)[2 0][8 3 1]; memory");
        Story one = Story.singleRuns(1).start();
        check.due("one dummy left before", Sight.view(one.step(1)),
                "2 level 1; 0(0)[0]; 1(1); 2(1); 3(0); memory");
    }

    private static void mergingOfOneAndTwoRuns() {
        check.at("merging: when the level is 0, sorting is done");
        check.due("one run", Sight.view(Story.singleRuns(1).start().step(2)),
                "3 level 0; 1(0); 2(0); 3(0); 0(0)[0]; memory");
        check.due("two runs", Sight.view(Story.singleRuns(2).start().step(3)),
                "3 level 0; 1(0); 2(0); 3(0); 0(0)[1 0]; memory");
        check.due("three runs", Sight.view(Story.singleRuns(3).start().step(4)),
                "3 level 0; 1(0); 2(0); 3(0); 0(0)[2 1 0]; memory");
        check.due("four runs", Sight.view(Story.singleRuns(4).start().step(6)),
                "3 level 0; 2(0); 3(0); 0(0)[3 2 1 0]; 1(0); memory");
    }

    private static void mergingEqualCards() {
        check.at("merging: in order of cards");
        Story story = Story.up(1, 5, 7, 5, 7, 5, 7).start();
        check.due("runs", Sight.view(story.step(3)),
                "2 level 1; 0(0)[0 1]; 1(0)[2 3]; 2(0)[4 5]; 3(0); memory");
        check.due("equal cards by number", Sight.order(story.step(4)), "0 2 4 1 3 5");
        Story ends = Story.up(1, 0, GREATEST, LEAST, -1, LEAST, 1).start();
        check.due("least and greatest", Sight.order(ends.step(4)), "2 4 3 0 5 1");
    }

    private static void orderOf150Cards() {
        check.at("promise 20: the order of 150 cards");
        StringBuilder backwards = new StringBuilder("149");
        for (int card = 148; card >= 0; card--) {
            backwards.append(' ').append(card);
        }
        for (int memory = 1; memory <= 8; memory++) {
            Story story = Story.of(memory).part(0, 1);
            for (int k = 0; k < 150; k++) {
                story = story.card(k, k);
            }
            check.due("memory " + memory, Sight.order(story.start().step(300)), backwards.toString());
        }
    }
}
