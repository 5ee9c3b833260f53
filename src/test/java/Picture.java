import java.util.ArrayList;
import java.util.List;

/** All that can be asked of a run's object, now and after each of several ways to go on. */
final class Picture {
    private static final int OWNERS = 30;
    private final List<String> rows = new ArrayList<>();

    private Picture() {
    }

    static Picture of(Run run) {
        Picture picture = new Picture();
        picture.add("now", run);
        long voyages = run.answer("count");
        for (int v = 0; v < voyages; v++) {
            picture.addWaysOn(run, v);
        }
        return picture;
    }

    /** The first row that is another one in the two pictures; null if there is none. */
    String difference(Picture other) {
        for (int k = 0; k < Math.max(rows.size(), other.rows.size()); k++) {
            String mine = k < rows.size() ? rows.get(k) : "nothing";
            String others = k < other.rows.size() ? other.rows.get(k) : "nothing";
            if (!mine.equals(others)) {
                return mine + " / " + others;
            }
        }
        return null;
    }

    /** What is hidden (the log, what each spent, how many lots came) shows in what comes later. */
    private void addWaysOn(Run run, int v) {
        long port = run.answer("told " + v + " 0");
        boolean underWay = run.answer("told " + v + " 1") == 1;
        long events = run.answer("told " + v + " 6");
        add("one back", run.then("back " + v));
        add("all back", run.times((int) Math.min(events + 1, 100), "back " + v));
        add("ended", run.times(20, "move " + v));
        add("lost", run.times(underWay ? 0 : 1, "move " + v).then("lost " + v));
        add("lost and back", run.times(underWay ? 0 : 1, "move " + v).then("lost " + v, "back " + v));
        addSpent(run, v);
        addSpent(run.then("back " + v), v);
        if (!underWay) {
            addFilled(run, v, port);
        }
    }

    /** What each owner spent in the open act can't be asked: it shows when one spends more. */
    private void addSpent(Run run, int v) {
        if (run.answer("told " + v + " 5") == JettisonDesk.NONE) {
            return;
        }
        for (int owner = 0; owner < OWNERS; owner++) {
            rows.add("spent by " + owner + ", and one more: " + run.answer("spend " + v + " " + owner + " 1"));
        }
    }

    private void addFilled(Run run, int v, long port) {
        Run lots = run.times(41, "lot " + v + " 3 7 7 " + (port + 1) + " 0 0");
        Run acts = run.times(13, "act " + v);
        rows.add("as many lots as go: " + lots.answer("told " + v + " 3"));
        rows.add("as many acts as go: " + acts.answer("told " + v + " 4"));
    }

    private void add(String way, Run run) {
        List<String> questions = questions(run);
        List<Long> answers = run.answers(questions);
        for (int k = 0; k < questions.size(); k++) {
            rows.add(way + ": " + questions.get(k) + " = " + answers.get(k));
        }
    }

    private static List<String> questions(Run run) {
        List<String> all = new ArrayList<>();
        all.add("count");
        long voyages = run.answer("count");
        for (int v = 0; v < voyages; v++) {
            addRow(all, "told " + v, 7);
            long interests = run.answer("told " + v + " 3");
            long acts = run.answer("told " + v + " 4");
            for (int i = 0; i < interests; i++) {
                addRow(all, "interest " + v + " " + i, 9);
            }
            for (int a = 0; a < acts; a++) {
                addAct(all, v + " " + a, interests);
            }
            addRow(all, "balance " + v, OWNERS);
            all.add("payments " + v);
            long payments = run.answer("payments " + v);
            for (int k = 0; k < payments; k++) {
                addRow(all, "payment " + v + " " + k, 3);
            }
        }
        return all;
    }

    private static void addAct(List<String> all, String act, long interests) {
        addRow(all, "sum " + act, 5);
        addRow(all, "gets " + act, OWNERS);
        addRow(all, "without " + act, interests);
        for (int i = 0; i < interests; i++) {
            addRow(all, "share " + act + " " + i, 5);
        }
    }

    private static void addRow(List<String> all, String head, long n) {
        for (int k = 0; k < n; k++) {
            all.add(head + " " + k);
        }
    }
}
