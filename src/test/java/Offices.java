/** Offices and looks at them that several tests share. */
final class Offices {
    static final int[] NO_TAPES = {-1, 4, Integer.MIN_VALUE, Integer.MAX_VALUE};

    private Offices() {
    }

    /** Cards with field 0 as told, and a key that is field 0 upwards; not started. */
    static ReelOffice of(int memory, int... values) {
        ReelOffice office = new ReelOffice(memory);
        office.part(0, 0);
        for (int value : values) {
            office.card(value, 0);
        }
        return office;
    }

    /** As many runs of one card each, since memory holds one and each card comes before the last. */
    static ReelOffice withSingleRuns(int runs) {
        ReelOffice office = new ReelOffice(1);
        office.part(0, 1);
        for (int k = 0; k < runs; k++) {
            office.card(k, 0);
        }
        office.start();
        return office;
    }

    /** All that can be seen of tapes, memory, plan and roles, but not what was written or broken. */
    static String sight(ReelOffice office) {
        StringBuilder text = new StringBuilder();
        text.append(office.phase() & 3).append(" level ").append(office.level());
        for (int tape = 0; tape < 4; tape++) {
            text.append("; ").append(office.role(tape)).append(tape(office, tape));
        }
        text.append("; memory");
        for (int card = 0; card < 150; card++) {
            if (office.memory(card)) {
                text.append(' ').append(card);
            }
        }
        return text.toString();
    }

    /** A tape as its dummies and its runs, each with its cards. */
    static String tape(ReelOffice office, int tape) {
        StringBuilder text = new StringBuilder();
        text.append('(').append(office.dummies(tape)).append(')');
        for (int r = 0; r < office.runs(tape); r++) {
            text.append('[');
            for (int i = 0; i < office.length(tape, r); i++) {
                text.append(i == 0 ? "" : " ").append(office.at(tape, r, i));
            }
            text.append(']');
        }
        return text.toString();
    }

    static String order(ReelOffice office) {
        StringBuilder text = new StringBuilder();
        for (int i = 0; office.sorted(i) != ReelOffice.NONE; i++) {
            text.append(i == 0 ? "" : " ").append(office.sorted(i));
        }
        return text.toString();
    }
}
