import java.io.IOException;
import java.util.HashMap;
import java.util.List;
import java.util.Map;
import java.util.function.Consumer;

/** What each test of an edge begins with: the promise and the sentence that it holds the class against. */
final class Edges {
    private final Words words = new Words();
    private final Due due = new Due();
    private final Map<Consumer<Run>, List<String>> looks = new HashMap<>();
    private String sentence = "";

    Edges() throws IOException {
    }

    /** What follows is held against these words of a promise. */
    void promise(int number, String said) {
        says("Promise " + number, said);
    }

    /** What follows is held against these words of the terms. */
    void terms(String said) {
        says("Terms", said);
    }

    void says(String section, String said) {
        sentence = section + ", \"" + said + "\": ";
        due.is(sentence + "these words stand there", words.name(section, said) ? 1 : 0, 1);
    }

    void is(String call, long got, long want) {
        due.is(sentence + call, got, want);
    }

    Run run() {
        return new Run(this);
    }

    Run run(Consumer<Run> scene) {
        Run run = run();
        scene.accept(run);
        return run;
    }

    /** The call is refused so in the busy market, and nothing is otherwise then. */
    void refused(String call, long want) {
        refusedIn(Busy::market, call, want);
    }

    void refusedIn(Consumer<Run> scene, String call, long want) {
        unchanged(scene, call, want);
    }

    /** The call answers this behind a scene, and nothing is otherwise then. */
    void unchanged(Consumer<Run> scene, String call, long want) {
        Run run = run(scene);
        run.due(call, want);
        same(scene, run, "behind " + call);
    }

    /** All that can be seen of a run is as behind a scene alone. */
    void same(Consumer<Run> scene, Run run, String when) {
        List<String> was = looks.get(scene);
        if (was == null) {
            was = Busy.look(run(scene));
            looks.put(scene, was);
        }
        List<String> now = Busy.look(run);
        for (int i = 0; i < was.size() && i < now.size(); i++) {
            if (!was.get(i).equals(now.get(i))) {
                due.is(sentence + when + " it is " + now.get(i) + ", and was " + was.get(i) + ": other looks", 1, 0);
                return;
            }
        }
        due.is(sentence + when + " so much can be seen", now.size(), was.size());
    }

    void end() {
        for (String stretch : words.unnamed()) {
            due.is("words of the document that no test names: " + stretch, 1, 0);
        }
        due.end();
    }
}
