import java.util.ArrayList;
import java.util.List;

/** What can be seen of the state to which a story comes. */
final class Sight {
    private final Story story;
    private ReelOffice office;
    private int callsLeft = 0;

    private Sight(Story story) {
        this.story = story;
    }

    /** For calls that change nothing: an object is asked until its calls are used up. */
    private Object look(Call call) {
        if (callsLeft == 0) {
            office = story.told();
            callsLeft = story.callsLeft();
        }
        callsLeft--;
        return call.on(office);
    }

    private int count(Call call) {
        return look(call) instanceof Integer number ? number : 0;
    }

    private int cards() {
        return story.ask(Call.clear()) instanceof Integer number ? number : 0;
    }

    /** A tape as its dummies and its runs, each with its cards: (1)[0 2][1]. */
    static String tape(Story story, int tape) {
        return new Sight(story).tape(tape);
    }

    private String tape(int tape) {
        StringBuilder text = new StringBuilder("(").append(look(Call.dummies(tape))).append(')');
        int runs = count(Call.runs(tape));
        for (int r = 0; r < runs; r++) {
            int length = count(Call.length(tape, r));
            text.append('[');
            for (int i = 0; i < length; i++) {
                text.append(i == 0 ? "" : " ").append(look(Call.at(tape, r, i)));
            }
            text.append(']');
        }
        return text.toString();
    }

    /** Phase, level, each tape with its role before it, and the cards in memory. */
    static String view(Story story) {
        return new Sight(story).view();
    }

    private String view() {
        StringBuilder text = new StringBuilder();
        text.append(look(Call.phase())).append(" level ").append(look(Call.level()));
        for (int tape = 0; tape < 4; tape++) {
            text.append("; ").append(look(Call.role(tape))).append(tape(tape));
        }
        text.append("; memory");
        int cards = cards();
        for (int card = 0; card < cards; card++) {
            text.append(look(Call.memory(card)).equals(true) ? " " + card : "");
        }
        return text.toString();
    }

    /** The cards in order, or nothing when sorting is not done. */
    static String order(Story story) {
        Sight sight = new Sight(story);
        StringBuilder text = new StringBuilder();
        for (int i = 0; i < 150 && sight.count(Call.sorted(i)) >= 0; i++) {
            text.append(i == 0 ? "" : " ").append(sight.look(Call.sorted(i)));
        }
        return text.toString();
    }

    /** All that any call could show, now or when sorting goes on. */
    static List<String> whole(Story story) {
        List<String> lines = new ArrayList<>();
        Sight sight = new Sight(story);
        lines.add(sight.view());
        sight.addLooks(lines);
        addNextAnswers(story, lines);
        addFuture(story, lines);
        addEnd(story, lines);
        return lines;
    }

    private void addLooks(List<String> lines) {
        addLook(lines, Call.written());
        addLook(lines, Call.broken());
        int cards = cards();
        for (int card = 0; card <= cards; card++) {
            addLook(lines, Call.field(card, 0));
            addLook(lines, Call.field(card, 1));
            addLook(lines, Call.memory(card));
            addLook(lines, Call.sorted(card));
            addLook(lines, Call.compare(card, card + 1));
            addLook(lines, Call.compare(card, cards / 2));
        }
    }

    private void addLook(List<String> lines, Call call) {
        lines.add(call + " " + look(call));
    }

    /** Each on an object of its own, as these calls change the state. */
    private static void addNextAnswers(Story story, List<String> lines) {
        List<Call> calls = new ArrayList<>(List.of(Call.card(7, 7), Call.part(1, 1), Call.start(),
                Call.clear(), Call.step(1), Call.cutAfter(5), Call.resume()));
        for (int tape = 0; tape < 4; tape++) {
            calls.add(Call.fault(tape, 0));
        }
        for (Call call : calls) {
            lines.add("next " + call + " " + story.ask(call));
        }
    }

    /** Shows the plan, and faults and cuts to come: they are seen only by going on. */
    private static void addFuture(Story story, List<String> lines) {
        Call[] round = {Call.resume(), Call.step(1), Call.phase(), Call.level(), Call.written(),
            Call.broken(), Call.runs(0), Call.dummies(0), Call.dummies(1), Call.dummies(2)};
        ReelOffice office = story.told();
        int left = story.callsLeft() - 1;
        Call.start().on(office);
        boolean done = false;
        while (!done && left >= round.length) {
            StringBuilder text = new StringBuilder("going on:");
            for (Call call : round) {
                text.append(' ').append(call).append(' ').append(call.on(office));
            }
            left -= round.length;
            lines.add(text.toString());
            done = text.indexOf("step(1) 0 phase() 3") >= 0;
        }
    }

    private static void addEnd(Story story, List<String> lines) {
        Story end = story.start();
        for (int k = 0; k < 4; k++) {
            end = end.resume().step(300);
        }
        lines.add("at last " + view(end));
    }
}
