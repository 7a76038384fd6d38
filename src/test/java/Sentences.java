import java.util.ArrayList;
import java.util.List;
import java.util.function.Consumer;
import java.util.function.ToIntFunction;

/** The sentences of the document that a test goes through, one after the other, and what was found wrong. */
final class Sentences {
    private String current = "";
    private int count = 0;
    private int wrong = 0;

    /** What is due from here on is what these words of the document ask for (shortened where they list much). */
    void says(String place, String words) {
        current = place + " \"" + words + "\"";
        count++;
    }

    Run fresh() {
        return new Run(this);
    }

    void due(String call, int got, int want) {
        if (got != want) {
            wrong++;
            System.out.println(current + ": " + call + " answered " + got + ", due is " + want);
        }
    }

    void finish() {
        System.out.println(count + " sentences, " + wrong + " answers not as due");
        if (wrong != 0) {
            System.exit(1);
        }
    }

    /** In a new object, after "before", the call gives that answer and changes nothing. */
    void refuses(int want, String call, Consumer<Run> before, ToIntFunction<Run> refused) {
        for (int view = 0; view < Run.VIEWS; view++) {
            Run x = fresh();
            before.accept(x);
            List<String> shown = x.view(view);
            due(call, refused.applyAsInt(x), want);
            same(call + " changed what is shown", x.view(view), shown);
        }
        leavesHiddenState(call, before, refused);
    }

    /** What no call shows comes to light in a sequel: it goes alike with the refused call and without it. */
    private void leavesHiddenState(String call, Consumer<Run> before, ToIntFunction<Run> refused) {
        for (int view = 0; view < Run.VIEWS; view++) {
            for (int kind = 0; kind < Run.SEQUELS; kind++) {
                Run with = fresh();
                before.accept(with);
                refused.applyAsInt(with);
                Run without = fresh();
                before.accept(without);
                same(call + " changed a sequel", sequelAndView(with, kind, view), sequelAndView(without, kind, view));
            }
        }
    }

    private static List<String> sequelAndView(Run x, int kind, int view) {
        List<String> answers = new ArrayList<>(x.sequel(kind));
        answers.addAll(x.view(view));
        return answers;
    }

    private void same(String what, List<String> got, List<String> want) {
        for (int i = 0; i < want.size(); i++) {
            if (!got.get(i).equals(want.get(i))) {
                wrong++;
                System.out.println(current + ": " + what + ": " + got.get(i) + ", not " + want.get(i));
            }
        }
    }
}
