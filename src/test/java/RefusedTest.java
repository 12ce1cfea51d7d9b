/** Each call that throws or is refused, in every situation: it changes nothing, and neither does looking. */
public final class RefusedTest {
    private static final Check check = new Check();
    private static final int LEAST = Integer.MIN_VALUE;
    private static final int GREATEST = Integer.MAX_VALUE;

    public static void main(String[] args) {
        for (Situation now : Situation.all()) {
            check.at(now.name());
            check.due(now.story(), Call.phase(), now.phase());
            cardIsRefused(now);
            partIsRefused(now);
            startIsRefused(now);
            stepIsRefused(now);
            faultIsRefused(now);
            cutAfterIsRefused(now);
            resumeIsRefused(now);
            lookingChangesNothing(now);
            badLooksChangeNothing(now);
        }
        check.end();
    }

    private static void cardIsRefused(Situation now) {
        check.at(now.name() + ": card");
        if (now.started() || now.cards() == 150) {
            check.refused(now.story(), Call.card(1, 2), Call.STATE);
            check.refused(now.story(), Call.card(LEAST, GREATEST), Call.STATE);
        } else {
            check.due(now.story(), Call.card(1, 2), now.cards());
        }
    }

    private static void partIsRefused(Situation now) {
        check.at(now.name() + ": part");
        for (int bad : new int[] {-1, 2, LEAST, GREATEST}) {
            check.refused(now.story(), Call.part(bad, 0), Call.ARGUMENT);
            check.refused(now.story(), Call.part(bad, 4), Call.ARGUMENT);
        }
        for (int bad : new int[] {-1, 4, LEAST, GREATEST}) {
            check.refused(now.story(), Call.part(1, bad), Call.ARGUMENT);
        }
        if (now.started() || now.parts() == 3) {
            check.refused(now.story(), Call.part(0, 0), Call.STATE);
            check.refused(now.story(), Call.part(1, 3), Call.STATE);
        } else {
            check.due(now.story(), Call.part(0, 0), now.parts() + 1);
        }
    }

    private static void startIsRefused(Situation now) {
        check.at(now.name() + ": start");
        if (now.started()) {
            check.refused(now.story(), Call.start(), Call.STATE);
        } else {
            check.due(now.story(), Call.start(), Call.STARTED);
        }
    }

    private static void stepIsRefused(Situation now) {
        check.at(now.name() + ": step");
        for (int bad : new int[] {0, 301, -1, LEAST, GREATEST}) {
            check.refused(now.story(), Call.step(bad), Call.ARGUMENT);
        }
        if (!now.started() || !now.power()) {
            check.refused(now.story(), Call.step(1), Call.STATE);
            check.refused(now.story(), Call.step(300), Call.STATE);
        }
    }

    private static void faultIsRefused(Situation now) {
        check.at(now.name() + ": fault");
        for (int bad : new int[] {-1, 4, LEAST, GREATEST}) {
            check.refused(now.story(), Call.fault(bad, 1), Call.ARGUMENT);
            check.refused(now.story(), Call.fault(bad, 21), Call.ARGUMENT);
        }
        for (int bad : new int[] {-1, 21, LEAST, GREATEST}) {
            for (int tape = 0; tape < 4; tape++) {
                check.refused(now.story(), Call.fault(tape, bad), Call.ARGUMENT);
            }
        }
    }

    private static void cutAfterIsRefused(Situation now) {
        check.at(now.name() + ": cutAfter");
        for (int bad : new int[] {-1, 1001, LEAST, GREATEST}) {
            check.refused(now.story(), Call.cutAfter(bad), false);
        }
        if (now.power()) {
            check.due(now.story(), Call.cutAfter(0), true);
            check.due(now.story(), Call.cutAfter(1000), true);
        } else {
            check.refused(now.story(), Call.cutAfter(0), false);
            check.refused(now.story(), Call.cutAfter(1000), false);
        }
    }

    private static void resumeIsRefused(Situation now) {
        check.at(now.name() + ": resume");
        if (now.power()) {
            check.refused(now.story(), Call.resume(), false);
        } else {
            check.due(now.story(), Call.resume(), true);
        }
    }

    private static void lookingChangesNothing(Situation now) {
        check.at(now.name() + ": looking");
        Story looked = now.story();
        for (int k = 0; k < 4; k++) {
            looked = looked.then(Call.runs(k)).then(Call.dummies(k)).then(Call.role(k))
                    .then(Call.length(k, 0)).then(Call.at(k, 0, 0)).then(Call.memory(k))
                    .then(Call.sorted(k)).then(Call.compare(k, 0)).then(Call.field(k, 1));
        }
        looked = looked.then(Call.phase()).then(Call.level()).then(Call.written()).then(Call.broken());
        check.same("state behind all looks", looked, now.story());
    }

    private static void badLooksChangeNothing(Situation now) {
        Story looked = now.story();
        for (int bad : new int[] {-1, 150, LEAST, GREATEST}) {
            check.due(now.story(), Call.runs(bad), -1);
            check.due(now.story(), Call.dummies(bad), -1);
            check.due(now.story(), Call.role(bad), -1);
            check.due(now.story(), Call.length(bad, 0), -1);
            check.due(now.story(), Call.length(0, bad), -1);
            check.due(now.story(), Call.at(bad, 0, 0), -1);
            check.due(now.story(), Call.at(0, bad, 0), -1);
            check.due(now.story(), Call.at(0, 0, bad), -1);
            check.due(now.story(), Call.memory(bad), false);
            check.due(now.story(), Call.sorted(bad), -1);
            check.due(now.story(), Call.compare(bad, 0), 0);
            check.due(now.story(), Call.compare(0, bad), 0);
            check.due(now.story(), Call.field(bad, 0), 0);
            check.due(now.story(), Call.field(0, bad), 0);
            looked = looked.then(Call.runs(bad)).then(Call.dummies(bad)).then(Call.role(bad))
                    .then(Call.length(bad, bad)).then(Call.at(bad, bad, bad)).then(Call.memory(bad))
                    .then(Call.sorted(bad)).then(Call.compare(bad, bad)).then(Call.field(bad, bad));
        }
        check.same("state behind looks at what there is not", looked, now.story());
    }
}
