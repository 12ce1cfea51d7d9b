/** Promises 7 to 9, 18 and 19: faults, cuts, and what broken steps leave. */
public final class BreakingTest {
    private static final Check check = new Check();

    public static void main(String[] args) {
        faultArguments();
        faultsBreakMerging();
        faultsOfSeveralSources();
        faultsPassOverDummies();
        cutArguments();
        cutAtEachCard();
        cutComesBeforeTheNextCard();
        laterCutInPlaceOfEarlier();
        faultBeforeCut();
        resume();
        writtenAndBroken();
        check.end();
    }

    private static void faultArguments() {
        check.at("promise 7");
        ReelOffice office = new ReelOffice(1);
        for (int bad : Offices.NO_TAPES) {
            check.argument("fault(" + bad + ", 1)", () -> office.fault(bad, 1));
        }
        for (int bad : new int[] {-1, 21, Integer.MIN_VALUE, Integer.MAX_VALUE}) {
            check.argument("fault(0, " + bad + ")", () -> office.fault(0, bad));
        }
        for (int tape = 0; tape < 4; tape++) {
            check.due("fault(" + tape + ", 20)", office.fault(tape, 20), 0);
            check.due("fault(" + tape + ", 3)", office.fault(tape, 3), 20);
            check.argument("a refused fault", () -> office.fault(0, 21));
            check.due("fault(" + tape + ", 0)", office.fault(tape, 0), 3);
            check.due("fault(" + tape + ", 0)", office.fault(tape, 0), 0);
        }
    }

    private static void faultsBreakMerging() {
        ReelOffice office = Offices.withSingleRuns(9);
        office.fault(1, 2);
        check.due("laying takes no run", office.step(9), 9);
        String before = Offices.sight(office);
        for (int left = 2; left > 0; left--) {
            check.due("step(300)", office.step(300), 0);
            check.due("sight", Offices.sight(office), before);
            check.due("phase", office.phase(), 2);
            check.due("fault(1, left - 1)", office.fault(1, left - 1), left - 1);
        }
        check.due("broken", office.broken(), 2);
        check.due("written", office.written(), 9);
        office.fault(3, 1);
        check.due("the goal is not read", office.step(300), 2);
        check.due("broken", office.broken(), 3);
        check.due("step(300)", office.step(300), 2);
        check.due("order", Offices.order(office), "8 7 6 5 4 3 2 1 0");
    }

    private static void faultsOfSeveralSources() {
        ReelOffice office = Offices.withSingleRuns(3);
        office.step(3);
        office.fault(0, 2);
        office.fault(1, 1);
        office.fault(2, 5);
        check.due("step(1)", office.step(1), 0);
        check.due("one step was broken off", office.broken(), 1);
        check.due("fault(0, 1)", office.fault(0, 1), 1);
        check.due("fault(1, 0)", office.fault(1, 0), 0);
        check.due("fault(2, 1)", office.fault(2, 1), 4);
        check.due("step(1)", office.step(1), 0);
        check.due("step(1)", office.step(1), 1);
        check.due("broken", office.broken(), 2);
        check.due("written", office.written(), 6);
    }

    private static void faultsPassOverDummies() {
        ReelOffice office = Offices.withSingleRuns(7);
        office.step(7);
        office.fault(1, 1);
        office.fault(2, 1);
        check.due("no run is taken from tapes 1 and 2", office.step(1), 1);
        check.due("then there is", office.step(1), 0);
        check.due("fault(1, 0)", office.fault(1, 0), 0);
        check.due("fault(2, 0)", office.fault(2, 0), 0);
        ReelOffice hollow = Offices.withSingleRuns(6);
        hollow.step(6);
        hollow.fault(0, 1);
        check.due("a step of dummies alone", hollow.step(2), 1);
        check.due("fault(0, 0)", hollow.fault(0, 0), 0);
    }

    private static void cutArguments() {
        check.at("promise 8");
        ReelOffice office = Offices.withSingleRuns(3);
        check.due("cutAfter(0)", office.cutAfter(0), true);
        check.due("cutAfter(1000)", office.cutAfter(1000), true);
        check.due("cutAfter(1)", office.cutAfter(1), true);
        for (int bad : new int[] {-1, 1001, Integer.MIN_VALUE, Integer.MAX_VALUE}) {
            check.due("cutAfter(" + bad + ")", office.cutAfter(bad), false);
        }
        check.due("a refused cut leaves the one before", office.step(300), 1);
        check.due("phase", office.phase(), 5);
        check.due("cutAfter(0) without power", office.cutAfter(0), false);
        office.resume();
        check.due("that one does not come", office.step(300), 3);
    }

    /** Whichever card the cut comes before: the step's start is seen again, and the order is the same. */
    private static void cutAtEachCard() {
        for (int memory = 1; memory <= 3; memory++) {
            int all = cutOffice(memory, 1000).written();
            for (int n = 0; n < all; n++) {
                ReelOffice whole = cutOffice(memory, 1000);
                ReelOffice office = Offices.of(memory, CARDS);
                check.due("cutAfter before start", office.cutAfter(n), true);
                office.start();
                int made = office.step(300);
                check.due("phase", office.phase() >= 4, true);
                check.due("written", office.written(), n);
                check.due("broken", office.broken(), 1);
                check.due("sight", Offices.sight(office), afterSteps(memory, made));
                office.resume();
                check.due("sight", Offices.sight(office), afterSteps(memory, made));
                office.step(300);
                check.due("sight", Offices.sight(office), Offices.sight(whole));
                check.due("order", Offices.order(office), "10 3 7 1 8 0 6 2 9 4 5");
            }
        }
    }

    private static final int[] CARDS = {50, 30, 60, 10, 70, 80, 55, 20, 40, 65, 5};

    private static ReelOffice cutOffice(int memory, int n) {
        ReelOffice office = Offices.of(memory, CARDS);
        office.cutAfter(n);
        office.start();
        office.step(300);
        return office;
    }

    private static String afterSteps(int memory, int steps) {
        ReelOffice office = Offices.of(memory, CARDS);
        office.start();
        if (steps > 0) {
            office.step(steps);
        }
        return Offices.sight(office);
    }

    private static void cutComesBeforeTheNextCard() {
        ReelOffice office = Offices.withSingleRuns(3);
        office.cutAfter(2);
        check.due("step(2) writes two cards", office.step(2), 2);
        check.due("power is on yet", office.phase(), 1);
        check.due("step(1)", office.step(1), 0);
        check.due("phase", office.phase(), 5);
        office.resume();
        office.cutAfter(4);
        check.due("to the end", office.step(300), 2);
        check.due("phase", office.phase(), 3);
        check.due("nothing is written any more", office.step(300), 0);
        check.due("phase", office.phase(), 3);
    }

    private static void laterCutInPlaceOfEarlier() {
        ReelOffice office = Offices.withSingleRuns(9);
        office.cutAfter(1);
        office.cutAfter(3);
        check.due("step(300)", office.step(300), 3);
        office.resume();
        office.cutAfter(5);
        office.step(2);
        office.cutAfter(0);
        check.due("step(300)", office.step(300), 0);
        office.resume();
        check.due("no cut is left", office.step(300), 8);
    }

    private static void faultBeforeCut() {
        ReelOffice office = Offices.withSingleRuns(3);
        office.step(3);
        office.cutAfter(0);
        office.fault(2, 1);
        check.due("step(1)", office.step(1), 0);
        check.due("the fault comes before writing", office.phase(), 2);
        check.due("step(1)", office.step(1), 0);
        check.due("phase", office.phase(), 6);
        check.due("broken", office.broken(), 2);
    }

    private static void resume() {
        check.at("promise 9");
        ReelOffice office = Offices.withSingleRuns(2);
        check.due("resume with power", office.resume(), false);
        office.cutAfter(0);
        check.due("resume before the cut", office.resume(), false);
        check.due("the cut comes nevertheless", office.step(1), 0);
        check.due("phase", office.phase(), 5);
        check.due("resume", office.resume(), true);
        check.due("phase", office.phase(), 1);
        check.due("resume again", office.resume(), false);
        check.due("step(300)", office.step(300), 3);
    }

    private static void writtenAndBroken() {
        check.at("promises 18 and 19");
        ReelOffice office = Offices.of(4, 1, 2, 3, 4, 5);
        check.due("written", office.written(), 0);
        office.start();
        check.due("written", office.written(), 0);
        office.cutAfter(3);
        office.step(1);
        check.due("written in a broken step", office.written(), 3);
        check.due("broken", office.broken(), 1);
        check.state("step(1)", () -> office.step(1));
        check.due("a refused step is not broken off", office.broken(), 1);
        office.resume();
        office.step(1);
        check.due("written", office.written(), 8);
        office.fault(0, 2);
        office.step(1);
        office.step(300);
        check.due("a source that cannot be read", office.written(), 8);
        check.due("broken", office.broken(), 3);
        office.cutAfter(4);
        office.step(1);
        check.due("written", office.written(), 12);
        check.due("broken", office.broken(), 4);
        office.resume();
        office.step(1);
        check.due("phase", office.phase(), 3);
        check.due("written", office.written(), 17);
        check.due("broken", office.broken(), 4);
    }
}
