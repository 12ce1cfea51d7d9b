/** Promises 1 to 5, 21 and 22: what is put in, started, cleared and compared. */
public final class InputTest {
    private static final Check check = new Check();

    public static void main(String[] args) {
        newObject();
        memoryOfNewObject();
        card();
        part();
        start();
        startWithoutCards();
        clear();
        sortingAfterClear();
        clearWithoutPower();
        compareByEachWay();
        compareBySeveralParts();
        compareWithoutKeyOrCard();
        field();
        check.end();
    }

    private static void newObject() {
        check.at("promise 1");
        ReelOffice office = new ReelOffice(3);
        check.due("NONE", ReelOffice.NONE, -1);
        looksNew(office);
    }

    private static void looksNew(ReelOffice office) {
        check.due("sight", Offices.sight(office), "0 level 0; -1(0); -1(0); -1(0); -1(0); memory");
        check.due("phase", office.phase(), 0);
        check.due("written", office.written(), 0);
        check.due("broken", office.broken(), 0);
        check.due("sorted(0)", office.sorted(0), -1);
        check.due("compare(0, 1)", office.compare(0, 1), 0);
        check.due("field(0, 0)", office.field(0, 0), 0);
        check.due("resume", office.resume(), false);
        check.state("step(1)", () -> office.step(1));
        check.due("clear", office.clear(), 0);
    }

    private static void memoryOfNewObject() {
        for (int memory = 1; memory <= 8; memory++) {
            check.due("cards in memory of " + memory, cardsInMemory(memory), memory);
        }
        for (int memory : new int[] {0, 9, -1, Integer.MIN_VALUE, Integer.MAX_VALUE}) {
            check.due("cards in memory of " + memory, cardsInMemory(memory), 4);
        }
    }

    private static int cardsInMemory(int memory) {
        ReelOffice office = Offices.of(memory, 1, 2, 3, 4, 5, 6, 7, 8, 9, 10);
        office.start();
        int count = 0;
        for (int card = 0; card < 10; card++) {
            count += office.memory(card) ? 1 : 0;
        }
        return count;
    }

    private static void card() {
        check.at("promise 2");
        ReelOffice office = new ReelOffice(4);
        for (int k = 0; k < 150; k++) {
            check.due("card", office.card(-k, k), k);
        }
        check.state("card 150", () -> office.card(1, 1));
        check.due("last card", office.field(149, 0), -149);
        check.due("no card 150", office.field(150, 1), 0);
        office.start();
        check.state("card when full and started", () -> office.card(1, 1));
        check.due("clear", office.clear(), 150);
        check.due("card after clear", office.card(7, 8), 0);
        office.start();
        check.state("card while laying", () -> office.card(1, 1));
        office.step(1);
        check.state("card while merging", () -> office.card(1, 1));
        office.step(1);
        check.state("card when done", () -> office.card(1, 1));
        check.due("clear", office.clear(), 1);
    }

    private static void part() {
        check.at("promise 3");
        ReelOffice office = new ReelOffice(4);
        office.card(1, 5);
        office.card(2, 4);
        badParts(office);
        check.due("refused parts leave no key", office.compare(0, 1), -1);
        check.due("part(1, 3)", office.part(1, 3), 1);
        check.due("compare", office.compare(0, 1), 1);
        check.due("part(0, 0)", office.part(0, 0), 2);
        check.due("the same part again", office.part(0, 0), 3);
        check.state("a fourth part", () -> office.part(1, 2));
        badParts(office);
        office.clear();
        check.due("part after clear", office.part(0, 2), 1);
        office.start();
        check.state("part when started", () -> office.part(0, 0));
        badParts(office);
    }

    /** The bad argument is named first, so it is told whatever the state is. */
    private static void badParts(ReelOffice office) {
        for (int bad : new int[] {-1, Integer.MIN_VALUE, Integer.MAX_VALUE}) {
            check.argument("part(" + bad + ", 0)", () -> office.part(bad, 0));
            check.argument("part(0, " + bad + ")", () -> office.part(0, bad));
        }
        check.argument("part(2, 0)", () -> office.part(2, 0));
        check.argument("part(0, 4)", () -> office.part(0, 4));
    }

    private static Object begin(ReelOffice office) {
        office.start();
        return "started";
    }

    private static void start() {
        check.at("promise 4");
        ReelOffice office = Offices.of(2, 3, 2, 1);
        check.due("start", begin(office), "started");
        String laying = "1 level 1; 0(1); 1(1); 2(1); 3(0); memory 0 1";
        check.due("sight", Offices.sight(office), laying);
        check.state("start while laying", () -> begin(office));
        check.due("sight", Offices.sight(office), laying);
        office.cutAfter(0);
        office.step(1);
        check.state("start without power", () -> begin(office));
        office.resume();
        office.step(2);
        check.due("phase", office.phase(), 2);
        check.state("start while merging", () -> begin(office));
        office.step(300);
        check.due("phase", office.phase(), 3);
        check.state("start when done", () -> begin(office));
        office.clear();
        check.due("start after clear", begin(office), "started");
    }

    private static void startWithoutCards() {
        ReelOffice office = new ReelOffice(4);
        office.start();
        check.due("phase", office.phase(), 3);
        check.due("level", office.level(), 0);
        check.due("sorted(0)", office.sorted(0), -1);
        check.due("step(300)", office.step(300), 0);
        check.due("sight", Offices.sight(office), "3 level 0; 0(1); 1(1); 2(1); 3(0); memory");
        check.due("written", office.written(), 0);
        check.state("start again", () -> begin(office));
    }

    private static void clear() {
        check.at("promise 5");
        ReelOffice office = Offices.of(3, 9, 1, 8, 2, 7, 3);
        check.due("clear before start", office.clear(), 6);
        looksNew(office);
        for (int steps = 1; steps <= 6; steps++) {
            office.part(0, 0);
            for (int k = 0; k < 12; k++) {
                office.card(k * 7 % 12, k);
            }
            office.fault(1, 20);
            office.start();
            office.step(steps);
            office.cutAfter(5);
            check.due("clear after " + steps + " steps", office.clear(), 12);
            check.due("fault(1, 0)", office.fault(1, 0), 0);
            looksNew(office);
        }
        office.card(2, 0);
        office.card(1, 0);
        check.due("no key is left", office.compare(0, 1), -1);
        office.card(0, 0);
        office.card(3, 0);
        office.start();
        check.due("memory is as large as before", office.memory(2) && !office.memory(3), true);
        check.due("no fault is left", office.step(300), 2);
    }

    private static void sortingAfterClear() {
        ReelOffice office = Offices.withSingleRuns(5);
        office.step(5);
        check.due("cutAfter(1)", office.cutAfter(1), true);
        check.due("clear", office.clear(), 5);
        office.card(2, 0);
        office.card(1, 0);
        check.due("level before start", office.level(), 0);
        check.due("part", office.part(0, 0), 1);
        office.start();
        check.due("sight", Offices.sight(office), "1 level 1; 0(1); 1(1); 2(1); 3(0); memory 0");
        office.step(1);
        check.due("the first run goes to tape 0", Offices.tape(office, 0), "(0)[0]");
        check.due("no cut is left", office.step(300), 2);
        check.due("order", Offices.order(office), "1 0");
    }

    private static void clearWithoutPower() {
        ReelOffice office = Offices.of(1, 3, 2, 1);
        office.start();
        office.cutAfter(1);
        office.step(5);
        check.due("phase", office.phase(), 5);
        check.due("clear", office.clear(), 3);
        looksNew(office);
        check.due("cutAfter(3)", office.cutAfter(3), true);
    }

    private static void compareByEachWay() {
        check.at("promise 21");
        int[] values = {0, 1, -1, 5, -5, Integer.MAX_VALUE, Integer.MIN_VALUE, Integer.MIN_VALUE + 1};
        int[][] ranksByWay = {
            {3, 4, 2, 5, 1, 6, -1, 0},
            {3, 2, 4, 1, 5, 0, 7, 6},
            {0, 1, 7, 2, 6, 3, 4, 5},
            {0, 1, 1, 2, 2, 3, 4, 3},
        };
        for (int way = 0; way < 4; way++) {
            ReelOffice office = new ReelOffice(1);
            office.part(1, way);
            for (int value : values) {
                office.card(9, value);
            }
            for (int x = 0; x < values.length; x++) {
                for (int y = 0; y < values.length; y++) {
                    int byRank = Integer.compare(ranksByWay[way][x], ranksByWay[way][y]);
                    int want = byRank != 0 ? byRank : Integer.compare(x, y);
                    check.due("way " + way + " compare(" + x + ", " + y + ")", office.compare(x, y), want);
                }
            }
        }
    }

    private static void compareBySeveralParts() {
        ReelOffice office = new ReelOffice(4);
        office.part(0, 3);
        office.card(-3, 1);
        office.card(3, 2);
        office.card(3, 2);
        check.due("equal by size: the lesser number", office.compare(0, 1), -1);
        office.part(1, 1);
        check.due("the second part decides", office.compare(0, 1), 1);
        check.due("equal in all parts", office.compare(1, 2), -1);
        check.due("equal in all parts", office.compare(2, 1), 1);
        check.due("the same card", office.compare(2, 2), 0);
        office.start();
        check.due("compare when started", office.compare(0, 1), 1);
    }

    private static void compareWithoutKeyOrCard() {
        ReelOffice office = new ReelOffice(4);
        office.card(9, 9);
        office.card(1, 1);
        check.due("no key", office.compare(0, 1), -1);
        check.due("no key", office.compare(1, 0), 1);
        for (int bad : new int[] {-1, 2, 150, Integer.MIN_VALUE, Integer.MAX_VALUE}) {
            check.due("compare(0, " + bad + ")", office.compare(0, bad), 0);
            check.due("compare(" + bad + ", 0)", office.compare(bad, 0), 0);
            check.due("compare(" + bad + ", " + bad + ")", office.compare(bad, bad), 0);
        }
    }

    private static void field() {
        check.at("promise 22");
        ReelOffice office = new ReelOffice(4);
        office.card(Integer.MIN_VALUE, 11);
        office.card(22, Integer.MAX_VALUE);
        check.due("field(0, 0)", office.field(0, 0), Integer.MIN_VALUE);
        check.due("field(0, 1)", office.field(0, 1), 11);
        check.due("field(1, 0)", office.field(1, 0), 22);
        check.due("field(1, 1)", office.field(1, 1), Integer.MAX_VALUE);
        for (int bad : new int[] {-1, 2, 150, Integer.MIN_VALUE, Integer.MAX_VALUE}) {
            check.due("field(0, " + bad + ")", office.field(0, bad), 0);
            check.due("field(" + bad + ", 0)", office.field(bad, 0), 0);
        }
        office.start();
        office.step(300);
        check.due("field(1, 0) when done", office.field(1, 0), 22);
        office.clear();
        check.due("field(1, 0) after clear", office.field(1, 0), 0);
    }
}
