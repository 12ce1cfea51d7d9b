import java.util.function.Function;

/** One call with its name, to be made on any object; an exception is an answer too. */
final class Call {
    static final String ARGUMENT = "throws.IllegalArgumentException";
    static final String STATE = "throws.IllegalStateException";
    static final String STARTED = "started";

    private final String name;
    private final Function<ReelOffice, Object> body;

    private Call(String name, Function<ReelOffice, Object> body) {
        this.name = name;
        this.body = body;
    }

    Object on(ReelOffice office) {
        return Check.answer(() -> body.apply(office));
    }

    @Override
    public String toString() {
        return name;
    }

    private static String name(String method, int... arguments) {
        StringBuilder text = new StringBuilder(method).append('(');
        for (int k = 0; k < arguments.length; k++) {
            text.append(k == 0 ? "" : ", ").append(arguments[k]);
        }
        return text.append(')').toString();
    }

    static Call card(int a, int b) {
        return new Call(name("card", a, b), office -> office.card(a, b));
    }

    static Call part(int field, int way) {
        return new Call(name("part", field, way), office -> office.part(field, way));
    }

    static Call start() {
        return new Call(name("start"), office -> {
            office.start();
            return STARTED;
        });
    }

    static Call clear() {
        return new Call(name("clear"), ReelOffice::clear);
    }

    static Call step(int n) {
        return new Call(name("step", n), office -> office.step(n));
    }

    static Call fault(int tape, int n) {
        return new Call(name("fault", tape, n), office -> office.fault(tape, n));
    }

    static Call cutAfter(int n) {
        return new Call(name("cutAfter", n), office -> office.cutAfter(n));
    }

    static Call resume() {
        return new Call(name("resume"), ReelOffice::resume);
    }

    static Call phase() {
        return new Call(name("phase"), ReelOffice::phase);
    }

    static Call level() {
        return new Call(name("level"), ReelOffice::level);
    }

    static Call runs(int tape) {
        return new Call(name("runs", tape), office -> office.runs(tape));
    }

    static Call dummies(int tape) {
        return new Call(name("dummies", tape), office -> office.dummies(tape));
    }

    static Call role(int tape) {
        return new Call(name("role", tape), office -> office.role(tape));
    }

    static Call length(int tape, int r) {
        return new Call(name("length", tape, r), office -> office.length(tape, r));
    }

    static Call at(int tape, int r, int i) {
        return new Call(name("at", tape, r, i), office -> office.at(tape, r, i));
    }

    static Call memory(int card) {
        return new Call(name("memory", card), office -> office.memory(card));
    }

    static Call written() {
        return new Call(name("written"), ReelOffice::written);
    }

    static Call broken() {
        return new Call(name("broken"), ReelOffice::broken);
    }

    static Call sorted(int i) {
        return new Call(name("sorted", i), office -> office.sorted(i));
    }

    static Call compare(int x, int y) {
        return new Call(name("compare", x, y), office -> office.compare(x, y));
    }

    static Call field(int card, int field) {
        return new Call(name("field", card, field), office -> office.field(card, field));
    }
}
