import java.util.ArrayList;
import java.util.List;

/**
 * All short runs of some small events on a voyage, none left out: behind each, accepted or refused,
 * all that can be asked of the voyage must be the reference's answer. A number given to main makes
 * longer runs.
 */
public final class ShortRunsTest {
    private static final int LENGTH = 6;
    private static final int OWNERS = 3;
    private static final String[] EVENTS = {"lot 0 1 4 3 1 3 0", "lot 0 2 2 2 LAST 0 1", "move 0", "act 0", "give 0 0 1",
        "give 0 1 3", "spend 0 2 2", "lose 0 1 2", "lost 0", "back 0"};

    private final Due due;
    private final int ports;

    private ShortRunsTest(Due due, int ports) {
        this.due = due;
        this.ports = ports;
    }

    public static void main(String[] args) {
        int length = args.length == 0 ? LENGTH : Integer.parseInt(args[0]);
        Due due = new Due("ShortRunsTest");
        for (int ports = 2; ports <= 3; ports++) {
            new ShortRunsTest(due, ports).goOn(new ArrayList<>(List.of("voyage 0 3 " + ports)), length);
        }
        due.end();
    }

    /** Tries each event behind the run; only an accepted one leads to longer runs. */
    private void goOn(List<String> run, int more) {
        for (String event : EVENTS) {
            run.add(event.replace("LAST", Integer.toString(ports - 1)));
            if (isAccepted(run) && more > 1) {
                goOn(run, more - 1);
            }
            run.remove(run.size() - 1);
        }
    }

    private boolean isAccepted(List<String> run) {
        due.part(String.join("; ", run));
        Both both = new Both(due);
        int events = 0;
        boolean accepted = false;
        for (String call : run) {
            events = both.reference.told(0, 6);
            say(both, call);
            accepted = both.reference.told(0, 6) != events;
        }
        ask(both);
        return accepted;
    }

    private static void say(Both both, String call) {
        String[] words = call.split(" ");
        int[] numbers = new int[words.length - 1];
        for (int k = 0; k < numbers.length; k++) {
            numbers[k] = Integer.parseInt(words[k + 1]);
        }
        both.call(words[0], numbers);
    }

    private void ask(Both both) {
        for (int what = 0; what < 7; what++) {
            both.call("told", 0, what);
        }
        int interests = both.reference.told(0, 3);
        for (int i = 0; i < interests; i++) {
            for (int what = 0; what < 9; what++) {
                both.call("interest", 0, i, what);
            }
        }
        for (int a = 0; a < both.reference.told(0, 4); a++) {
            askAct(both, a, interests);
        }
        for (int owner = 0; owner < OWNERS; owner++) {
            both.call("balance", 0, owner);
        }
        long payments = both.call("payments", 0);
        for (int k = 0; k < payments; k++) {
            for (int what = 0; what < 3; what++) {
                both.call("payment", 0, k, what);
            }
        }
    }

    private void askAct(Both both, int a, int interests) {
        for (int what = 0; what < 5; what++) {
            both.call("sum", 0, a, what);
            for (int i = 0; i < interests; i++) {
                both.call("share", 0, a, i, what);
            }
        }
        for (int i = 0; i < interests; i++) {
            both.call("without", 0, a, i);
        }
        for (int owner = 0; owner < OWNERS; owner++) {
            both.call("gets", 0, a, owner);
        }
    }
}
