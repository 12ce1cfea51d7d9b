import java.util.Random;
import java.util.function.Supplier;

/** Holds ReelOffice against PlainOffice over many runs of calls from a fixed seed. */
public final class ModelTest {
    private static final int RUNS = 1500;
    private static final int CALLS = 512;
    private static final int[] EDGES = {0, 1, -1, Integer.MIN_VALUE, Integer.MAX_VALUE, Integer.MIN_VALUE + 1};

    private final Random random;
    private final Check check;
    private final ReelOffice office;
    private final PlainOffice plain;

    private ModelTest(int run, Check check) {
        random = new Random(run);
        this.check = check;
        int memory = random.nextInt(12) - 1;
        office = new ReelOffice(memory);
        plain = new PlainOffice(memory);
    }

    public static void main(String[] args) {
        Check check = new Check();
        for (int run = 0; run < RUNS; run++) {
            check.at("run " + run);
            new ModelTest(run, check).go(run);
        }
        check.end();
    }

    private void go(int run) {
        int cards = run % 10 == 0 ? 151 : random.nextInt(random.nextInt(10) == 0 ? 3 : 60);
        int parts = random.nextInt(5);
        int spread = new int[] {3, 20, 1000, 0}[random.nextInt(4)];
        int breaks = random.nextInt(4);
        int calls = 0;
        for (int k = 0; k < parts; k++, calls++) {
            part();
        }
        for (int k = 0; k < cards; k++, calls++) {
            card(spread);
        }
        for (; calls < CALLS; calls++) {
            oneCall(spread, breaks);
        }
    }

    private void oneCall(int spread, int breaks) {
        int pick = random.nextInt(100);
        if (pick < 2) {
            card(spread);
        } else if (pick < 3) {
            part();
        } else if (pick < 6) {
            same("start", () -> { office.start(); return 0; }, plain::start);
        } else if (pick < 7 && random.nextInt(4) == 0) {
            same("clear", office::clear, plain::clear);
        } else if (pick < 16) {
            int n = random.nextInt(8) == 0 ? random.nextInt(310) - 3 : 1 + random.nextInt(3);
            same("step(" + n + ")", () -> office.step(n), () -> plain.step(n));
        } else if (pick < 22) {
            breakOff(breaks);
        } else {
            look();
        }
    }

    private int edgeOr(int value) {
        return random.nextInt(20) == 0 ? EDGES[random.nextInt(EDGES.length)] : value;
    }

    private void card(int spread) {
        int a = edgeOr(spread == 0 ? random.nextInt() : random.nextInt(2 * spread) - spread);
        int b = edgeOr(random.nextInt(5) - 2);
        same("card(" + a + ", " + b + ")", () -> office.card(a, b), () -> plain.card(a, b));
    }

    private void part() {
        int field = edgeOr(random.nextInt(2));
        int way = edgeOr(random.nextInt(4));
        same("part(" + field + ", " + way + ")", () -> office.part(field, way), () -> plain.part(field, way));
    }

    private void breakOff(int breaks) {
        int pick = random.nextInt(4);
        if (pick == 0 && breaks % 2 == 1) {
            int tape = edgeOr(random.nextInt(4));
            int n = edgeOr(random.nextInt(random.nextInt(6) == 0 ? 23 : 3));
            same("fault(" + tape + ", " + n + ")", () -> office.fault(tape, n), () -> plain.fault(tape, n));
        } else if (pick == 1 && breaks / 2 == 1) {
            int n = edgeOr(random.nextInt(random.nextInt(6) == 0 ? 1003 : 60));
            same("cutAfter(" + n + ")", () -> office.cutAfter(n), () -> plain.cutAfter(n));
        } else {
            same("resume", office::resume, plain::resume);
        }
    }

    private void look() {
        int tape = edgeOr(random.nextInt(4));
        int r = edgeOr(random.nextInt(random.nextInt(5) == 0 ? 70 : 4));
        int i = edgeOr(random.nextInt(random.nextInt(2) == 0 ? 5 : 152));
        int j = edgeOr(random.nextInt(152));
        switch (random.nextInt(13)) {
            case 0 -> same("phase", office::phase, plain::phase);
            case 1 -> same("level", office::level, plain::level);
            case 2 -> same("runs(" + tape + ")", () -> office.runs(tape), () -> plain.runs(tape));
            case 3 -> same("dummies(" + tape + ")", () -> office.dummies(tape), () -> plain.dummies(tape));
            case 4 -> same("role(" + tape + ")", () -> office.role(tape), () -> plain.role(tape));
            case 5 -> same("length(" + tape + ", " + r + ")",
                    () -> office.length(tape, r), () -> plain.length(tape, r));
            case 6 -> same("at(" + tape + ", " + r + ", " + i + ")",
                    () -> office.at(tape, r, i), () -> plain.at(tape, r, i));
            case 7 -> same("memory(" + i + ")", () -> office.memory(i), () -> plain.memory(i));
            case 8 -> same("written", office::written, plain::written);
            case 9 -> same("broken", office::broken, plain::broken);
            case 10 -> same("sorted(" + i + ")", () -> office.sorted(i), () -> plain.sorted(i));
            case 11 -> same("compare(" + i + ", " + j + ")",
                    () -> office.compare(i, j), () -> plain.compare(i, j));
            default -> same("field(" + i + ", " + r + ")", () -> office.field(i, r), () -> plain.field(i, r));
        }
    }

    private void same(String what, Supplier<Object> got, Supplier<Object> want) {
        check.due(what, Check.answer(got), Check.answer(want));
    }
}
