/** Promises 6, 10 to 17 and 20: steps of laying and merging, and what is seen of them. */
public final class SortingTest {
    private static final Check check = new Check();

    public static void main(String[] args) {
        stepRefused();
        stepCounts();
        layingWithMemoryOfTwo();
        placesOfNineRuns();
        mergingNineRuns();
        mergingWithDummies();
        phaseAndLevel();
        runsAndDummies();
        role();
        lengthAndAt();
        memory();
        sorted();
        manyCards();
        check.end();
    }

    private static void stepRefused() {
        check.at("promise 6");
        ReelOffice office = Offices.of(1, 3, 2, 1);
        for (int bad : new int[] {0, 301, -1, Integer.MIN_VALUE, Integer.MAX_VALUE}) {
            check.argument("step(" + bad + ") before start", () -> office.step(bad));
        }
        check.state("step(1) before start", () -> office.step(1));
        office.start();
        for (int bad : new int[] {0, 301, -1, Integer.MIN_VALUE, Integer.MAX_VALUE}) {
            check.argument("step(" + bad + ")", () -> office.step(bad));
        }
        office.cutAfter(0);
        check.due("step(300) with a cut", office.step(300), 0);
        check.state("step(1) without power", () -> office.step(1));
        check.argument("step(0) without power", () -> office.step(0));
        check.due("broken", office.broken(), 1);
    }

    private static void stepCounts() {
        ReelOffice office = Offices.withSingleRuns(9);
        check.due("step(4)", office.step(4), 4);
        check.due("step(7)", office.step(7), 7);
        check.due("phase", office.phase(), 2);
        check.due("step(300)", office.step(300), 2);
        check.due("step(1) when done", office.step(1), 0);
        check.due("step(300) when done", office.step(300), 0);
    }

    private static void layingWithMemoryOfTwo() {
        ReelOffice office = Offices.of(2, 5, 3, 9, 2, 7, 1, 8);
        office.start();
        office.step(1);
        check.due("first run", Offices.sight(office), "1 level 1; 0(0)[1 0 2]; 1(1); 2(1); 3(0); memory 3 4");
        office.step(1);
        check.due("second run", Offices.sight(office),
                "1 level 1; 0(0)[1 0 2]; 1(0)[3 4 6]; 2(1); 3(0); memory 5");
        office.step(1);
        check.due("third run", Offices.sight(office),
                "2 level 1; 0(0)[1 0 2]; 1(0)[3 4 6]; 2(0)[5]; 3(0); memory");
        ReelOffice equal = Offices.of(1, 4, 4, 4);
        equal.start();
        equal.step(1);
        check.due("equal cards stay in the run", Offices.tape(equal, 0), "(0)[0 1 2]");
    }

    private static void placesOfNineRuns() {
        String[] due = {
            "1 (0)[0] (1) (1)",
            "1 (0)[0] (0)[1] (1)",
            "1 (0)[0] (0)[1] (0)[2]",
            "2 (0)[0][3] (1)[1] (0)[2]",
            "2 (0)[0][3] (0)[1][4] (0)[2]",
            "3 (1)[0][3][5] (1)[1][4] (1)[2]",
            "3 (0)[0][3][5][6] (1)[1][4] (1)[2]",
            "3 (0)[0][3][5][6] (0)[1][4][7] (1)[2]",
            "3 (0)[0][3][5][6] (0)[1][4][7] (0)[2][8]",
            "4 (2)[0][3][5][6][9] (3)[1][4][7] (2)[2][8]",
            "4 (2)[0][3][5][6][9] (2)[1][4][7][10] (2)[2][8]",
            "4 (1)[0][3][5][6][9][11] (2)[1][4][7][10] (2)[2][8]",
        };
        ReelOffice office = Offices.withSingleRuns(13);
        for (int k = 0; k < due.length; k++) {
            office.step(1);
            String got = office.level() + " " + Offices.tape(office, 0) + " " + Offices.tape(office, 1)
                    + " " + Offices.tape(office, 2);
            check.due("after run " + k, got, due[k]);
        }
    }

    private static void mergingNineRuns() {
        ReelOffice office = Offices.withSingleRuns(9);
        office.step(9);
        String[] due = {
            "2 level 3; 0(0)[3][5][6]; 1(0)[4][7]; 2(0)[8]; 3(0)[2 1 0]; memory",
            "2 level 2; 1(0)[5][6]; 2(0)[7]; 3(0); 0(0)[2 1 0][8 4 3]; memory",
            "2 level 1; 2(0)[6]; 3(0); 0(0)[7 5 2 1 0]; 1(0)[8 4 3]; memory",
            "3 level 0; 3(0); 0(0)[8 7 6 5 4 3 2 1 0]; 1(0); 2(0); memory",
        };
        for (int k = 0; k < due.length; k++) {
            check.due("step(1)", office.step(1), 1);
            check.due("merge " + k, Offices.sight(office), due[k]);
        }
        check.due("written", office.written(), 29);
    }

    private static void mergingWithDummies() {
        ReelOffice office = Offices.withSingleRuns(6);
        office.step(6);
        check.due("cutAfter(0)", office.cutAfter(0), true);
        check.due("a step of dummies alone writes nothing", office.step(1), 1);
        check.due("merge 0", Offices.sight(office),
                "2 level 3; 0(0)[0][3][5]; 1(0)[1][4]; 2(0)[2]; 3(1); memory");
        office.cutAfter(1000);
        office.step(1);
        check.due("merge 1", Offices.sight(office),
                "2 level 2; 1(0)[3][5]; 2(0)[4]; 3(0); 0(1)[2 1 0]; memory");
        office.step(1);
        check.due("merge 2", Offices.sight(office),
                "2 level 1; 2(0)[5]; 3(0); 0(0)[4 3]; 1(0)[2 1 0]; memory");
        office.step(1);
        check.due("merge 3", Offices.sight(office),
                "3 level 0; 3(0); 0(0)[5 4 3 2 1 0]; 1(0); 2(0); memory");
    }

    private static void phaseAndLevel() {
        check.at("promises 10 and 11");
        ReelOffice office = Offices.withSingleRuns(4);
        ReelOffice fresh = new ReelOffice(1);
        fresh.card(1, 1);
        check.due("phase before start", fresh.phase(), 0);
        check.due("level before start", fresh.level(), 0);
        check.due("phase", office.phase(), 1);
        check.due("level", office.level(), 1);
        office.step(3);
        check.due("level before the fourth run", office.level(), 1);
        check.due("phase before the last card", office.phase(), 1);
        office.cutAfter(0);
        office.step(1);
        check.due("phase without power", office.phase(), 5);
        check.due("level of a broken step", office.level(), 1);
        office.resume();
        office.step(1);
        check.due("phase", office.phase(), 2);
        check.due("level", office.level(), 2);
        office.cutAfter(0);
        office.step(1);
        check.due("phase without power", office.phase(), 6);
        office.resume();
        office.step(300);
        check.due("phase", office.phase(), 3);
        check.due("level", office.level(), 0);
    }

    private static void runsAndDummies() {
        check.at("promises 12 and 13");
        ReelOffice office = Offices.withSingleRuns(7);
        for (int bad : Offices.NO_TAPES) {
            check.due("runs(" + bad + ")", office.runs(bad), -1);
            check.due("dummies(" + bad + ")", office.dummies(bad), -1);
        }
        check.due("runs(0)", office.runs(0), 0);
        check.due("dummies(2)", office.dummies(2), 1);
        check.due("dummies(3)", office.dummies(3), 0);
        office.step(7);
        check.due("runs(0)", office.runs(0), 4);
        check.due("runs(1)", office.runs(1), 2);
        check.due("runs(3)", office.runs(3), 0);
        check.due("dummies(0)", office.dummies(0), 0);
        check.due("dummies(1)", office.dummies(1), 1);
        office.step(1);
        check.due("runs(0)", office.runs(0), 3);
        check.due("runs(1)", office.runs(1), 2);
        check.due("runs(3)", office.runs(3), 1);
        check.due("dummies(1)", office.dummies(1), 0);
        check.due("dummies(3)", office.dummies(3), 0);
    }

    private static void role() {
        check.at("promise 14");
        ReelOffice fresh = new ReelOffice(1);
        for (int tape = 0; tape < 4; tape++) {
            check.due("role before start", fresh.role(tape), -1);
        }
        ReelOffice office = Offices.withSingleRuns(2);
        for (int bad : Offices.NO_TAPES) {
            check.due("role(" + bad + ")", office.role(bad), -1);
            check.due("role(" + bad + ") before start", fresh.role(bad), -1);
        }
        for (int tape = 0; tape < 4; tape++) {
            check.due("role while laying", office.role(tape), tape);
        }
        office.step(300);
        for (int tape = 0; tape < 4; tape++) {
            check.due("role when done", office.role(tape), (tape + 1) % 4);
        }
    }

    private static void lengthAndAt() {
        check.at("promises 15 and 16");
        ReelOffice office = Offices.of(1, 1, 2, 0, 5, 6, 3, 2);
        office.start();
        office.step(4);
        check.due("length(0, 0)", office.length(0, 0), 2);
        check.due("length(0, 1)", office.length(0, 1), 1);
        check.due("length(1, 0)", office.length(1, 0), 3);
        check.due("length(3, 0)", office.length(3, 0), -1);
        check.due("at(0, 0, 1)", office.at(0, 0, 1), 1);
        check.due("at(0, 1, 0)", office.at(0, 1, 0), 6);
        check.due("at(1, 0, 2)", office.at(1, 0, 2), 4);
        check.due("at(1, 0, 3)", office.at(1, 0, 3), -1);
        check.due("at(0, 0, 2)", office.at(0, 0, 2), -1);
        for (int bad : new int[] {-1, 4, 150, Integer.MIN_VALUE, Integer.MAX_VALUE}) {
            check.due("length(" + bad + ", 0)", office.length(bad, 0), -1);
            check.due("length(0, " + bad + ")", office.length(0, bad), -1);
            check.due("at(" + bad + ", 0, 0)", office.at(bad, 0, 0), -1);
            check.due("at(0, " + bad + ", 0)", office.at(0, bad, 0), -1);
            check.due("at(0, 0, " + bad + ")", office.at(0, 0, bad), -1);
        }
        office.step(1);
        check.due("run 0 is the first that is left", office.at(0, 0, 0), 6);
        check.due("length(0, 1)", office.length(0, 1), -1);
    }

    private static void memory() {
        check.at("promise 17");
        ReelOffice office = Offices.of(3, 4, 5);
        check.due("memory(0) before start", office.memory(0), false);
        office.start();
        check.due("memory(0)", office.memory(0), true);
        check.due("memory(1)", office.memory(1), true);
        for (int bad : new int[] {-1, 2, 150, Integer.MIN_VALUE, Integer.MAX_VALUE}) {
            check.due("memory(" + bad + ")", office.memory(bad), false);
        }
        office.step(1);
        check.due("memory(0) when written", office.memory(0), false);
        check.due("memory(1) when written", office.memory(1), false);
    }

    private static void sorted() {
        check.at("promise 20");
        ReelOffice office = Offices.of(2, 3, 1, 2, 1, 0);
        check.due("sorted(0) before start", office.sorted(0), -1);
        office.start();
        check.due("sorted(0) while laying", office.sorted(0), -1);
        office.step(2);
        check.due("phase", office.phase(), 2);
        check.due("sorted(0) while merging", office.sorted(0), -1);
        office.step(300);
        check.due("order", Offices.order(office), "4 1 3 2 0");
        for (int bad : new int[] {-1, 5, 150, Integer.MIN_VALUE, Integer.MAX_VALUE}) {
            check.due("sorted(" + bad + ")", office.sorted(bad), -1);
        }
    }

    private static void manyCards() {
        check.at("150 cards");
        for (int memory = 1; memory <= 8; memory++) {
            ReelOffice office = new ReelOffice(memory);
            office.part(0, 1);
            for (int k = 0; k < 150; k++) {
                office.card(k, k);
            }
            office.start();
            check.due("runs of memory " + memory, office.step(300) < 300, true);
            check.due("phase", office.phase(), 3);
            for (int i = 0; i < 150; i++) {
                check.due("sorted(" + i + ")", office.sorted(i), 149 - i);
            }
        }
    }
}
