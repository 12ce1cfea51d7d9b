import java.util.Arrays;

/** Promises 21 and 22, and the key with its four ways. */
public final class CompareTest {
    private static final Check check = new Check();
    private static final int LEAST = Integer.MIN_VALUE;
    private static final int GREATEST = Integer.MAX_VALUE;

    /** For each way the ints in order, those in one row not differing by it. */
    private static final int[][][] ORDERS = {
        {{LEAST}, {LEAST + 1}, {-5}, {-1}, {0}, {1}, {5}, {GREATEST - 1}, {GREATEST}},
        {{GREATEST}, {GREATEST - 1}, {5}, {1}, {0}, {-1}, {-5}, {LEAST + 1}, {LEAST}},
        {{0}, {1}, {5}, {GREATEST - 1}, {GREATEST}, {LEAST}, {LEAST + 1}, {-5}, {-1}},
        {{0}, {1, -1}, {5, -5}, {GREATEST - 1, 1 - GREATEST}, {GREATEST, LEAST + 1}, {LEAST}},
    };

    public static void main(String[] args) {
        for (int way = 0; way < 4; way++) {
            for (int field = 0; field < 2; field++) {
                compareByWay(field, way);
                runsByWay(field, way);
                sortByWay(field, way);
            }
        }
        firstPartThatDiffers();
        partThatDoesNotDifferByItsWay();
        noPartDiffers();
        keyAsItIsNow();
        sameCard();
        noSuchCard();
        cardOf150();
        compareWhateverThePhase();
        fieldOfCard();
        fieldOfNoCard();
        noSuchField();
        fieldWhateverThePhase();
        check.end();
    }

    private static Story cards(int field, int way, int... values) {
        Story story = Story.of(1).part(field, way);
        for (int value : values) {
            story = field == 0 ? story.card(value, 9) : story.card(9, value);
        }
        return story;
    }

    private static void compareByWay(int field, int way) {
        check.at("promise 21: way " + way + " of field " + field);
        int[][] order = ORDERS[way];
        for (int x = 0; x < order.length; x++) {
            for (int y = x; y < order.length; y++) {
                for (int a : order[x]) {
                    for (int b : order[y]) {
                        Story story = cards(field, way, a, b);
                        check.due(story, Call.compare(0, 1), -1);
                        check.due(story, Call.compare(1, 0), 1);
                        Story turned = cards(field, way, b, a);
                        check.due(turned, Call.compare(0, 1), x == y ? -1 : 1);
                        check.due(turned, Call.compare(1, 0), x == y ? 1 : -1);
                    }
                }
            }
        }
    }

    /** A card behind one that it comes before is for the next run, any other for the present one. */
    private static void runsByWay(int field, int way) {
        check.at("laying: way " + way + " of field " + field);
        int[][] order = ORDERS[way];
        for (int x = 0; x < order.length; x++) {
            for (int y = x; y < order.length; y++) {
                int a = order[x][0];
                int b = order[y][order[y].length - 1];
                Story inOrder = cards(field, way, a, b).start().step(1);
                check.due(inOrder, Call.length(0, 0), 2);
                Story turned = cards(field, way, b, a).start().step(1);
                check.due(turned, Call.length(0, 0), x == y ? 2 : 1);
            }
        }
    }

    private static void sortByWay(int field, int way) {
        check.at("sorting: way " + way + " of field " + field);
        int[][] order = ORDERS[way];
        int[] values = Arrays.stream(order).flatMapToInt(Arrays::stream).toArray();
        int last = values.length - 1;
        int[] backwards = new int[values.length];
        for (int k = 0; k <= last; k++) {
            backwards[k] = values[last - k];
        }
        StringBuilder same = new StringBuilder();
        StringBuilder turned = new StringBuilder();
        int before = 0;
        for (int[] row : order) {
            for (int k = 0; k < row.length; k++) {
                same.append(' ').append(before + k);
                turned.append(' ').append(last - before - row.length + 1 + k);
            }
            before += row.length;
        }
        check.due("in order", Sight.order(cards(field, way, values).start().step(300)), same.substring(1));
        check.due("backwards", Sight.order(cards(field, way, backwards).start().step(300)), turned.substring(1));
    }

    private static void firstPartThatDiffers() {
        check.at("promise 21: the first part in which they differ");
        Story cards = Story.of(4).card(1, 5).card(2, 4).card(1, 4).card(-1, 5);
        check.due(cards.part(0, 0).part(1, 0), Call.compare(0, 1), -1);
        check.due(cards.part(1, 0).part(0, 0), Call.compare(0, 1), 1);
        check.due(cards.part(0, 0).part(1, 0), Call.compare(0, 2), 1);
        check.due(cards.part(0, 0).part(1, 1), Call.compare(0, 2), -1);
        check.due(cards.part(0, 0).part(0, 1).part(1, 0), Call.compare(0, 2), 1);
        check.due(cards.part(0, 3).part(1, 0).part(0, 0), Call.compare(0, 3), 1);
        check.due(cards.part(0, 3).part(1, 0).part(0, 2), Call.compare(0, 3), -1);
        check.due(cards.part(0, 0).part(0, 1), Call.compare(0, 1), -1);
        check.due(cards.part(0, 1).part(0, 0), Call.compare(0, 1), 1);
    }

    private static void partThatDoesNotDifferByItsWay() {
        check.at("promise 21: by its way");
        Story cards = Story.of(4).card(-3, 1).card(3, 2);
        check.due(cards.part(0, 3), Call.compare(0, 1), -1);
        check.due(cards.part(0, 3).part(1, 1), Call.compare(0, 1), 1);
        check.due(cards.part(0, 3).part(0, 1), Call.compare(0, 1), 1);
        check.due(cards.part(0, 3).part(0, 3).part(0, 2), Call.compare(0, 1), 1);
        Story ends = Story.of(4).card(LEAST, 1).card(LEAST + 1, 2).card(GREATEST, 3);
        check.due(ends.part(0, 3).part(1, 0), Call.compare(0, 1), 1);
        check.due(ends.part(0, 3).part(1, 1), Call.compare(1, 2), 1);
    }

    private static void noPartDiffers() {
        check.at("promise 21: if there is none, the lesser number");
        Story cards = Story.of(4).card(7, 8).card(7, 8).card(-7, 8);
        check.due(cards, Call.compare(0, 1), -1);
        check.due(cards, Call.compare(1, 0), 1);
        check.due(cards, Call.compare(2, 0), 1);
        Story three = cards.part(0, 1).part(1, 2).part(1, 3);
        check.due(three, Call.compare(0, 1), -1);
        check.due(three, Call.compare(1, 0), 1);
        Story size = cards.part(0, 3);
        check.due(size, Call.compare(0, 2), -1);
        check.due(size, Call.compare(2, 1), 1);
    }

    private static void keyAsItIsNow() {
        check.at("promise 21: by the key as it is now");
        Story cards = Story.of(4).card(-3, 1).card(3, 2);
        check.due(cards, Call.compare(0, 1), -1);
        check.due(cards.part(1, 1), Call.compare(0, 1), 1);
        check.due(cards.part(0, 3), Call.compare(0, 1), -1);
        check.due(cards.part(0, 3).part(1, 1), Call.compare(0, 1), 1);
        check.due(cards.part(1, 1).clear().card(-3, 1).card(3, 2), Call.compare(0, 1), -1);
        check.due(cards.part(1, 4).part(2, 1), Call.compare(0, 1), -1);
    }

    private static void sameCard() {
        check.at("promise 21: 0 when they are the same");
        Story cards = Story.of(4).card(LEAST, LEAST).card(GREATEST, 0);
        for (int card = 0; card < 2; card++) {
            check.due(cards, Call.compare(card, card), 0);
            for (int way = 0; way < 4; way++) {
                check.due(cards.part(0, way), Call.compare(card, card), 0);
            }
        }
    }

    private static void noSuchCard() {
        check.at("promise 21: 0 when there is no such card");
        Story cards = Story.up(4, 2, 1);
        for (int bad : new int[] {-1, 2, 149, 150, LEAST, GREATEST}) {
            for (int card = 0; card < 2; card++) {
                check.due(cards, Call.compare(card, bad), 0);
                check.due(cards, Call.compare(bad, card), 0);
            }
            check.due(cards, Call.compare(bad, bad), 0);
            check.due(cards, Call.compare(bad, -2), 0);
        }
        check.due(Story.of(4), Call.compare(0, 1), 0);
        check.due(cards.clear(), Call.compare(0, 1), 0);
        check.due(cards.clear().card(5, 5), Call.compare(0, 1), 0);
    }

    private static Story all() {
        Story story = Story.of(4).part(0, 1);
        for (int k = 0; k < 150; k++) {
            story = story.card(k, -k);
        }
        return story;
    }

    private static void cardOf150() {
        check.at("promises 21 and 22: the last of 150 cards");
        check.due(all(), Call.compare(0, 149), 1);
        check.due(all(), Call.compare(149, 148), -1);
        check.due(all(), Call.compare(149, 149), 0);
        check.due(all(), Call.compare(149, 150), 0);
        check.due(all(), Call.compare(150, 149), 0);
        check.due(all(), Call.field(149, 0), 149);
        check.due(all(), Call.field(149, 1), -149);
        check.due(all(), Call.field(150, 0), 0);
        check.due(all(), Call.field(150, 1), 0);
    }

    private static void compareWhateverThePhase() {
        check.at("promise 21: in every phase");
        Story story = Story.singleRuns(5);
        Story laying = story.start().step(2);
        for (Story now : new Story[] {story, laying, laying.cutAfter(0).step(1), laying.step(4), laying.step(300)}) {
            check.due(now, Call.compare(0, 4), 1);
            check.due(now, Call.compare(4, 0), -1);
            check.due(now, Call.compare(4, 5), 0);
        }
    }

    private static void fieldOfCard() {
        check.at("promise 22: a field of a card");
        Story story = Story.of(4).card(LEAST, 11).card(22, GREATEST);
        check.due(story, Call.field(0, 0), LEAST);
        check.due(story, Call.field(0, 1), 11);
        check.due(story, Call.field(1, 0), 22);
        check.due(story, Call.field(1, 1), GREATEST);
    }

    private static void fieldOfNoCard() {
        check.at("promise 22: 0 when there is none such, of cards");
        Story story = Story.of(4).card(33, 11).card(22, 44);
        for (int bad : new int[] {-1, 2, 149, 150, LEAST, GREATEST}) {
            check.due(story, Call.field(bad, 0), 0);
            check.due(story, Call.field(bad, 1), 0);
        }
        check.due(Story.of(4), Call.field(0, 0), 0);
        check.due(story.clear(), Call.field(0, 0), 0);
        check.due(story.clear().card(5, 5), Call.field(1, 1), 0);
    }

    private static void noSuchField() {
        check.at("promise 22: 0 when there is none such, of fields");
        Story story = Story.of(4).card(33, 11).card(22, 44);
        for (int bad : new int[] {-1, 2, 3, LEAST, GREATEST}) {
            check.due(story, Call.field(0, bad), 0);
            check.due(story, Call.field(1, bad), 0);
            check.due(story, Call.field(2, bad), 0);
        }
    }

    private static void fieldWhateverThePhase() {
        check.at("promise 22: in every phase");
        Story story = Story.singleRuns(5);
        Story laying = story.start().step(2);
        for (Story now : new Story[] {story, laying, laying.cutAfter(0).step(1), laying.step(4), laying.step(300)}) {
            check.due(now, Call.field(4, 0), 4);
            check.due(now, Call.field(5, 0), 0);
        }
    }
}
