import java.util.List;
import java.util.Set;
import java.util.TreeSet;

/** Tests of single sentences of the document, each with the promise's number and the sentence as its name. */
final class Sentences {
    private static final int LOW = Integer.MIN_VALUE, HIGH = Integer.MAX_VALUE;

    private final Due due = new Due();
    private final Set<Integer> promises = new TreeSet<>();
    private String name = "";
    private int sentences;

    interface Call {
        int answer(FordWord f);
    }

    interface CallWith {
        int answer(FordWord f, int v);
    }

    void holds(int promise, String sentence, Runnable test) {
        name = "promise " + promise + ", " + sentence + ": ";
        promises.add(promise);
        sentences++;
        int before = due.calls();
        test.run();
        due.isTrue(name + "something was asked", due.calls() > before);
    }

    void is(String call, long got, long want) {
        due.is(name + call, got, want);
    }

    void isTrue(String what, boolean holds) {
        due.isTrue(name + what, holds);
    }

    /** A call that is refused: its answer, and that a ford looks as one that never heard of it. */
    void refused(String call, Fords.Build build, Call refused, int want) {
        FordWord asked = Fords.of(build);
        is(call, refused.answer(asked), want);
        List<Integer> left = Fords.seen(asked);
        List<Integer> due = Fords.seen(Fords.of(build));
        isTrue(call + " changes nothing\n  " + left + "\n  " + due + "\n ", left.equals(due));
    }

    /** A number that is as told from least to most: it is taken at both ends, and BAD right beyond, and far off. */
    void range(String what, Fords.Build build, int least, int most, CallWith call) {
        for (int v : new int[] {least, most}) {
            int answer = call.answer(Fords.of(build), v);
            isTrue(what + " " + v + " is as told, but answered " + answer, answer >= 0);
        }
        for (int v : new int[] {least - 1, most + 1, LOW, LOW + 1, HIGH - 1, HIGH}) {
            refused(what + " " + v, build, f -> call.answer(f, v), FordWord.BAD);
        }
    }

    void end(int first, int last) {
        for (int promise = first; promise <= last; promise++) {
            due.isTrue("promise " + promise + " has a test here", promises.contains(promise));
        }
        System.out.println(sentences + " sentences");
        due.end();
    }
}
