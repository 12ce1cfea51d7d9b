import java.util.List;

/** Promises 1 to 5: what is put in, started and cleared. */
public final class InputTest {
    private static final Check check = new Check();
    private static final int LEAST = Integer.MIN_VALUE;
    private static final int GREATEST = Integer.MAX_VALUE;
    private static final String NOTHING = "0 level 0; -1(0); -1(0); -1(0); -1(0); memory";
    private static final int[] TEN = {1, 2, 3, 4, 5, 6, 7, 8, 9, 10};

    public static void main(String[] args) {
        memoryFromOneToEight();
        memoryOfAnyOtherNumber();
        newObjectHasNothing();
        cardAnswersItsNumber();
        cardKeepsLeastAndGreatest();
        cardWhenThereAre150();
        cardWhenStarted();
        partOfEachFieldAndWay();
        partOfNoFieldOrWay();
        partWhenThereAreThree();
        partWhenStarted();
        partArgumentBeforeState();
        startFillsMemory();
        startMakesThePlan();
        startWithoutKey();
        startWithoutCards();
        startWhenStarted();
        clearAnswersTheCards();
        clearLeavesANewObject();
        clearLeavesNothingToSortingBehindIt();
        check.end();
    }

    private static void memoryFromOneToEight() {
        check.at("promise 1: memory for 1 .. 8 cards");
        for (int memory = 1; memory <= 8; memory++) {
            holds(memory, memory);
        }
    }

    private static void memoryOfAnyOtherNumber() {
        check.at("promise 1: 4 for any other number");
        for (int memory : new int[] {0, 9, -1, 10, LEAST, GREATEST}) {
            holds(memory, 4);
        }
    }

    private static void holds(int memory, int cards) {
        Story story = Story.up(memory, TEN).start();
        for (int card = 0; card < 10; card++) {
            check.due(story, Call.memory(card), card < cards);
        }
    }

    private static void newObjectHasNothing() {
        check.at("promise 1: no cards, no key");
        check.due("NONE", ReelOffice.NONE, -1);
        for (int memory : new int[] {1, 8, 0, 9}) {
            Story story = Story.of(memory);
            check.due("view", Sight.view(story), NOTHING);
            check.due(story, Call.written(), 0);
            check.due(story, Call.broken(), 0);
            check.due(story, Call.sorted(0), -1);
            check.due(story, Call.field(0, 0), 0);
            check.due(story, Call.compare(0, 1), 0);
            check.due(story, Call.resume(), false);
            check.due(story, Call.step(1), Call.STATE);
            check.due(story, Call.clear(), 0);
            check.due(story, Call.card(9, 9), 0);
            check.due(story, Call.part(1, 1), 1);
            check.due(story.card(9, 9).card(1, 1), Call.compare(0, 1), -1);
            for (int tape = 0; tape < 4; tape++) {
                check.due(story, Call.fault(tape, 1), 0);
            }
        }
    }

    private static Story cards(int count) {
        Story story = Story.of(4);
        for (int k = 0; k < count; k++) {
            story = story.card(-k, k);
        }
        return story;
    }

    private static void cardAnswersItsNumber() {
        check.at("promise 2: answers its number");
        for (int count = 0; count < 150; count++) {
            check.due(cards(count), Call.card(5, 5), count);
        }
        check.due(cards(3).clear(), Call.card(5, 5), 0);
        check.due(cards(3).start().step(300).clear(), Call.card(5, 5), 0);
        check.due(cards(1).card(0, 0), Call.card(0, 0), 2);
    }

    private static void cardKeepsLeastAndGreatest() {
        check.at("promise 2: puts a card in");
        Story story = Story.of(1).card(LEAST, GREATEST).card(GREATEST, LEAST);
        check.due(story, Call.field(0, 0), LEAST);
        check.due(story, Call.field(0, 1), GREATEST);
        check.due(story, Call.field(1, 0), GREATEST);
        check.due(story, Call.field(1, 1), LEAST);
    }

    private static void cardWhenThereAre150() {
        check.at("promise 2: there are 150");
        Story full = cards(150);
        check.due(cards(149), Call.card(1, 1), 149);
        check.refused(full, Call.card(1, 1), Call.STATE);
        check.due(full, Call.field(149, 1), 149);
        check.due(full.card(1, 1), Call.field(150, 1), 0);
        check.due(full.card(1, 1), Call.clear(), 150);
        check.refused(full.start(), Call.card(1, 1), Call.STATE);
        Story again = full.clear();
        for (int k = 0; k < 149; k++) {
            again = again.card(k, k);
        }
        check.due(again, Call.card(1, 1), 149);
        check.refused(again.card(1, 1), Call.card(1, 1), Call.STATE);
    }

    private static void cardWhenStarted() {
        check.at("promise 2: sorting was started");
        Story started = cards(1).start();
        check.refused(started, Call.card(1, 1), Call.STATE);
        check.refused(started.step(1), Call.card(1, 1), Call.STATE);
        check.refused(started.step(2), Call.card(1, 1), Call.STATE);
        check.refused(started.cutAfter(0).step(1), Call.card(1, 1), Call.STATE);
        check.refused(Story.of(4).start(), Call.card(1, 1), Call.STATE);
    }

    private static void partOfEachFieldAndWay() {
        check.at("promise 3: answers how many it has");
        for (int field = 0; field < 2; field++) {
            for (int way = 0; way < 4; way++) {
                check.due(Story.of(4), Call.part(field, way), 1);
                check.due(Story.of(4).part(1, 1), Call.part(field, way), 2);
                check.due(Story.of(4).part(1, 1).part(0, 3), Call.part(field, way), 3);
            }
        }
    }

    private static void partOfNoFieldOrWay() {
        check.at("promise 3: there is no such field or way");
        Story story = Story.up(4, 2, 1);
        for (int bad : new int[] {-1, 2, 3, LEAST, GREATEST}) {
            check.refused(story, Call.part(bad, 0), Call.ARGUMENT);
            check.refused(story, Call.part(bad, 3), Call.ARGUMENT);
        }
        for (int bad : new int[] {-1, 4, LEAST, GREATEST}) {
            check.refused(story, Call.part(0, bad), Call.ARGUMENT);
            check.refused(story, Call.part(1, bad), Call.ARGUMENT);
            check.refused(story, Call.part(2, bad), Call.ARGUMENT);
        }
        check.due(story.part(2, 0).part(0, 4), Call.part(0, 0), 2);
    }

    private static void partWhenThereAreThree() {
        check.at("promise 3: there are 3");
        Story two = Story.of(4).card(1, 5).card(1, 4).part(0, 0).part(0, 0);
        check.due(two, Call.part(0, 0), 3);
        Story three = two.part(0, 0);
        check.refused(three, Call.part(1, 0), Call.STATE);
        check.refused(three, Call.part(0, 0), Call.STATE);
        check.due(three.part(1, 0), Call.compare(0, 1), -1);
        Story again = three.clear().part(1, 0).part(1, 0);
        check.due(again, Call.part(1, 0), 3);
        check.refused(again.part(1, 0), Call.part(1, 0), Call.STATE);
    }

    private static void partWhenStarted() {
        check.at("promise 3: sorting was started");
        Story started = cards(1).start();
        check.refused(started, Call.part(0, 0), Call.STATE);
        check.refused(started.step(1), Call.part(0, 0), Call.STATE);
        check.refused(started.step(2), Call.part(0, 0), Call.STATE);
        check.refused(started.cutAfter(0).step(1), Call.part(0, 0), Call.STATE);
        check.refused(Story.of(4).start(), Call.part(0, 0), Call.STATE);
    }

    private static void partArgumentBeforeState() {
        check.at("promise 3: the exception named first");
        Story three = cards(2).part(0, 0).part(0, 1).part(0, 2);
        for (Story story : List.of(three, cards(2).start(), three.start())) {
            check.refused(story, Call.part(2, 0), Call.ARGUMENT);
            check.refused(story, Call.part(-1, 0), Call.ARGUMENT);
            check.refused(story, Call.part(0, 4), Call.ARGUMENT);
            check.refused(story, Call.part(0, -1), Call.ARGUMENT);
        }
    }

    private static void startFillsMemory() {
        check.at("promise 4: the first cards come into memory, as many as it holds");
        check.due("fewer", Sight.view(Story.up(3, 3, 1).start()),
                "1 level 1; 0(1); 1(1); 2(1); 3(0); memory 0 1");
        check.due("as many", Sight.view(Story.up(3, 3, 1, 2).start()),
                "1 level 1; 0(1); 1(1); 2(1); 3(0); memory 0 1 2");
        check.due("more", Sight.view(Story.up(3, 3, 1, 2, 0).start()),
                "1 level 1; 0(1); 1(1); 2(1); 3(0); memory 0 1 2");
        check.due("one", Sight.view(Story.up(1, 3).start()),
                "1 level 1; 0(1); 1(1); 2(1); 3(0); memory 0");
    }

    private static void startMakesThePlan() {
        check.at("promise 4: starts sorting");
        Story story = Story.up(2, 3, 2, 1);
        check.due(story, Call.start(), Call.STARTED);
        check.due(story.start(), Call.phase(), 1);
        check.due(story.start(), Call.written(), 0);
        check.due(story.fault(1, 3).start(), Call.fault(1, 0), 3);
        check.due(story.cutAfter(1).start(), Call.step(1), 0);
    }

    private static void startWithoutKey() {
        check.at("promise 4: without a key cards go by number");
        Story story = Story.of(2).card(3, 3).card(2, 2).card(1, 1).start();
        check.due("one run", Sight.tape(story.step(1), 0), "(0)[0 1 2]");
        check.due("order", Sight.order(story.step(300)), "0 1 2");
    }

    private static void startWithoutCards() {
        check.at("promise 4: with no cards sorting is done at once");
        Story story = Story.of(4).part(0, 0).start();
        check.due(Story.of(4).part(0, 0), Call.start(), Call.STARTED);
        check.due(story, Call.phase(), 3);
        check.due(story, Call.level(), 0);
        check.due(story, Call.step(1), 0);
        check.due(story, Call.step(300), 0);
        check.due(story, Call.sorted(0), -1);
        check.due(story, Call.written(), 0);
        check.due("view", Sight.view(story), "3 level 0; 0(1); 1(1); 2(1); 3(0); memory");
        check.due("view", Sight.view(story.step(300)), Sight.view(story));
        check.due("no cut", Sight.view(story.cutAfter(0).step(300)), Sight.view(story));
        check.refused(story, Call.start(), Call.STATE);
    }

    private static void startWhenStarted() {
        check.at("promise 4: it was started");
        Story started = Story.singleRuns(4).start();
        check.refused(started, Call.start(), Call.STATE);
        check.refused(started.step(3), Call.start(), Call.STATE);
        check.refused(started.step(4), Call.start(), Call.STATE);
        check.refused(started.step(300), Call.start(), Call.STATE);
        check.refused(started.cutAfter(1).step(300), Call.start(), Call.STATE);
        check.refused(started.step(4).cutAfter(0).step(1), Call.start(), Call.STATE);
        check.due(started.step(300).clear(), Call.start(), Call.STARTED);
    }

    private static void clearAnswersTheCards() {
        check.at("promise 5: answers how many cards there were");
        for (int count : new int[] {0, 1, 2, 149, 150}) {
            check.due(cards(count), Call.clear(), count);
            check.due(cards(count).start(), Call.clear(), count);
            check.due(cards(count).start().step(300), Call.clear(), count);
            check.due(cards(count).clear(), Call.clear(), 0);
        }
        for (Situation now : Situation.all()) {
            check.due(now.story(), Call.clear(), now.cards());
        }
    }

    private static void clearLeavesANewObject() {
        check.at("promise 5: there is nothing then");
        for (Situation now : Situation.all()) {
            Story cleared = now.story().clear();
            check.due(now.name(), Sight.view(cleared), NOTHING);
            check.due(cleared, Call.written(), 0);
            check.due(cleared, Call.broken(), 0);
            check.due(cleared, Call.resume(), false);
            check.due(cleared, Call.cutAfter(0), true);
            check.due(cleared, Call.step(1), Call.STATE);
            check.due(cleared, Call.part(0, 0), 1);
            check.due(cleared.card(2, 2).card(1, 1), Call.compare(0, 1), -1);
            for (int tape = 0; tape < 4; tape++) {
                check.due(cleared, Call.fault(tape, 0), 0);
            }
        }
    }

    /** Compared with a new object whose memory is as large: that is not cleared. */
    private static void clearLeavesNothingToSortingBehindIt() {
        for (Situation now : Situation.all()) {
            Story fresh = Story.of(now.story().memory());
            check.same(now.name() + ", sorting anew", behind(now.story().clear()), behind(fresh));
        }
    }

    private static Story behind(Story story) {
        Story next = story.part(0, 0);
        for (int value : new int[] {9, 8, 7, 6, 5, 4, 3, 2, 1, 0, 11, 10}) {
            next = next.card(value, value);
        }
        return next.start();
    }
}
