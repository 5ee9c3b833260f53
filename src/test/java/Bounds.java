import java.util.HashMap;
import java.util.Map;

/** Tries the two sides of a boundary case: what is allowed, and what is refused. */
final class Bounds {
    static final int MIN = Integer.MIN_VALUE;
    static final int MAX = Integer.MAX_VALUE;

    private final Due due;
    private final Map<Run, Picture> pictures = new HashMap<>();

    Bounds(String test) {
        due = new Due(test);
    }

    /** Names the sentence of the document that the next tries are about. */
    void sentence(String words) {
        due.part(words);
    }

    /** A call behind a run answers what is due; for events the run goes on with it. */
    Run allowed(Run run, String call, long want) {
        due.is(call + " behind " + run, run.answer(call), want);
        return run.then(call);
    }

    /** Rows of "call = answer", each asked behind the same run. */
    void asks(Run run, String... rows) {
        for (String row : rows) {
            String[] sides = row.split("=");
            due.is(sides[0].trim() + " behind " + run, run.answer(sides[0].trim()), Long.parseLong(sides[1].trim()));
        }
    }

    /** The answers of head + " 0", head + " 1" and so on. */
    void asksRow(Run run, String head, long... want) {
        for (int k = 0; k < want.length; k++) {
            asks(run, head + " " + k + " = " + want[k]);
        }
    }

    /** Each call is refused, and nothing has changed then: neither what is asked, nor what comes later. */
    void refused(Run run, String... calls) {
        for (String call : calls) {
            due.is(call + " behind " + run, run.answer(call), refusal(call));
            same(run, call);
        }
    }

    /** The call is refused with each of the numbers in the place of its '?'. */
    void refusedFor(Run run, String call, int... wrong) {
        for (int number : wrong) {
            refused(run, call.replace("?", Integer.toString(number)));
        }
    }

    /** Nothing that can be asked of the run has changed behind a call. */
    void same(Run run, String call) {
        Picture before = pictures.computeIfAbsent(run, Picture::of);
        equal(call + " behind " + run, before, Picture.of(run.then(call)));
    }

    /** Two runs lead to objects that answer the same to all. */
    void alike(Run one, Run other) {
        equal(one + " is like " + other, Picture.of(one), Picture.of(other));
    }

    private void equal(String words, Picture one, Picture other) {
        String difference = one.difference(other);
        due.is(words + " changed " + difference, difference == null, true);
    }

    private static long refusal(String call) {
        return Run.isBoolean(call) || call.startsWith("balance ") ? 0 : JettisonDesk.NONE;
    }

    void end() {
        due.end();
    }
}
