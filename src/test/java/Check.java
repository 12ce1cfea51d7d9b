import java.util.List;
import java.util.function.Supplier;

/** Counts and prints the answers that are not as due. */
final class Check {
    private int wrong = 0;
    private String sentence = "";

    /** Names the sentence that is looked at from here on, for the printed lines. */
    void at(String name) {
        sentence = name;
    }

    void due(String what, Object got, Object want) {
        if (!want.equals(got)) {
            wrong++;
            System.out.println(sentence + ": " + what + " answered " + got + ", due is " + want);
        }
    }

    /** What the call answers when it comes behind the story. */
    void due(Story story, Call call, Object want) {
        due(story + ", " + call, story.ask(call), want);
    }

    /** The call answers as told and changes nothing that any other call could show. */
    void refused(Story story, Call call, Object want) {
        due(story, call, want);
        same(story + ", state behind " + call, story.then(call), story);
    }

    /** Two stories that come to the same state. */
    void same(String what, Story got, Story want) {
        List<String> seen = Sight.whole(got);
        List<String> due = Sight.whole(want);
        for (int k = 0; k < due.size() || k < seen.size(); k++) {
            String one = k < seen.size() ? seen.get(k) : "nothing";
            String other = k < due.size() ? due.get(k) : "nothing";
            if (!one.equals(other)) {
                due(what, one, other);
                return;
            }
        }
    }

    /** An exception is an answer too, so that two programs can be held against each other. */
    static Object answer(Supplier<Object> call) {
        try {
            return call.get();
        } catch (RuntimeException e) {
            return "throws." + e.getClass().getSimpleName();
        }
    }

    void end() {
        if (wrong > 0) {
            System.out.println(wrong + " answers are not as due");
            System.exit(1);
        }
    }
}
