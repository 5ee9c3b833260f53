import java.util.ArrayList;
import java.util.Collections;
import java.util.List;
import java.util.Random;

/**
 * Voyages from their first lot to their end, made up from fixed seeds, with many lots, acts and
 * payers: what is asked of them when they are over must be the reference's answer. Then events are
 * taken back, others come, and the voyage ends a second time.
 */
public final class WholeVoyagesTest {
    private static final int RUNS = 1500;
    private static final int OWNERS = 30;

    private final Due due;
    private final Random random;
    private final Both both;
    private final ReferenceDesk reference;
    /** Small worths make many like cuts, large ones long products; 1 makes all worths like ones. */
    private final int scale;
    private final int owners;
    private final boolean freights;
    private int v;
    /** How many calls must be left when the voyage goes the straight way to its end. */
    private int reserve;

    private WholeVoyagesTest(Due due, int seed) {
        this.due = due;
        due.part("seed " + seed);
        both = new Both(due);
        reference = both.reference;
        random = new Random(seed);
        scale = new int[] {1, 8, 60, 5000, 1000000}[random.nextInt(5)];
        owners = new int[] {3, 10, OWNERS}[random.nextInt(3)];
        freights = random.nextBoolean();
    }

    public static void main(String[] args) {
        Due due = new Due("WholeVoyagesTest");
        for (int seed = 0; seed < RUNS && due.failed() == 0; seed++) {
            new WholeVoyagesTest(due, seed).run();
        }
        due.end();
    }

    private void run() {
        int voyages = 1 + random.nextInt(3);
        for (int k = 0; k < voyages; k++) {
            int ports = 2 + random.nextInt(random.nextInt(3) == 0 ? 9 : 3);
            v = (int) both.call("voyage", owner(), amount(), ports);
            int calls = both.callsLeft() / (voyages - k);
            int stop = both.callsLeft() - calls;
            reserve = stop + calls / 2;
            sail();
            ask(stop + calls * 3 / 8);
            reserve = stop + calls / 6;
            takeBack(random.nextInt(12));
            sail();
            ask(stop);
        }
    }

    private void sail() {
        load(random.nextInt(random.nextInt(3) == 0 ? 45 : 9));
        boolean sinks = random.nextInt(4) == 0;
        while (!isOver() && hasTime()) {
            switch (random.nextInt(8)) {
                case 0 -> both.call("move", v);
                case 1 -> take("lose");
                case 2 -> load(random.nextInt(4));
                case 3 -> sink(sinks && random.nextInt(3) == 0);
                default -> actOut(1 + random.nextInt(12));
            }
        }
        sink(sinks);
        while (!isOver()) {
            both.call("move", v);
        }
    }

    private boolean hasTime() {
        return both.callsLeft() > reserve;
    }

    private boolean isOver() {
        return reference.told(v, 2) == 1;
    }

    private void sink(boolean really) {
        if (really && reference.told(v, 1) == 1) {
            both.call("lost", v);
        }
    }

    private void load(int lots) {
        for (int k = 0; k < lots && hasTime(); k++) {
            int worth = amount();
            int told = random.nextInt(3) == 0 ? 1 + random.nextInt(worth) : worth;
            int freight = freights ? random.nextInt(scale + 1) : 0;
            int terms = random.nextInt(5) == 0 ? random.nextInt(3) : 0;
            int port = reference.told(v, 0) + 1 + random.nextInt(2);
            both.call("lot", v, owner(), worth, told, port, freight, terms);
        }
    }

    /** An act with givings and expenses, most of them such as are not refused. */
    private void actOut(int events) {
        both.call("act", v);
        for (int k = 0; k < events && hasTime(); k++) {
            if (random.nextInt(3) == 0) {
                take("give");
            } else {
                both.call("spend", v, owner(), 1 + random.nextInt(Math.max(1, scale / 12)));
            }
        }
    }

    private void take(String name) {
        int i = random.nextInt(reference.told(v, 3));
        int left = Math.max(1, reference.interest(v, i, 2));
        // Mostly a little, so that something is left to bear what comes later.
        both.call(name, v, i, random.nextInt(20) == 0 ? left : 1 + random.nextInt(Math.max(1, left / 6)));
    }

    private void takeBack(int events) {
        for (int k = 0; k < events; k++) {
            both.call("back", v);
        }
    }

    /** As many of all questions as the calls allow. */
    private void ask(int callsLeft) {
        List<int[]> questions = questions();
        Collections.shuffle(questions, random);
        for (int k = 0; k < questions.size() && both.callsLeft() > callsLeft; k++) {
            askOne(questions.get(k));
        }
    }

    private void askOne(int[] q) {
        switch (q[0]) {
            case 0 -> both.call("interest", v, q[1], q[2]);
            case 1 -> both.call("share", v, q[1], q[2], q[3]);
            case 2 -> both.call("sum", v, q[1], q[2]);
            case 3 -> both.call("gets", v, q[1], q[2]);
            case 4 -> both.call("without", v, q[1], q[2]);
            case 5 -> both.call("balance", v, q[1]);
            case 6 -> both.call("payment", v, q[1], q[2]);
            default -> both.call("payments", v);
        }
    }

    /** All that is made when a voyage is over: each row a kind, and the places that are asked for. */
    private List<int[]> questions() {
        List<int[]> all = new ArrayList<>();
        all.add(new int[] {7});
        int interests = reference.told(v, 3);
        for (int i = 0; i < interests; i++) {
            all.add(new int[] {0, i, 8});
            all.add(new int[] {0, i, 2});
        }
        for (int a = 0; a < reference.told(v, 4); a++) {
            addAct(all, a, interests);
        }
        for (int owner = 0; owner < OWNERS; owner++) {
            all.add(new int[] {5, owner});
        }
        for (int k = 0; k < reference.payments(v); k++) {
            for (int what = 0; what < 3; what++) {
                all.add(new int[] {6, k, what});
            }
        }
        return all;
    }

    private void addAct(List<int[]> all, int a, int interests) {
        for (int i = 0; i < interests; i++) {
            all.add(new int[] {1, a, i, random.nextInt(3)});
            all.add(new int[] {1, a, i, 3});
            all.add(new int[] {1, a, i, 4});
            all.add(new int[] {4, a, i});
        }
        for (int what = 0; what < 5; what++) {
            all.add(new int[] {2, a, what});
        }
        for (int owner = 0; owner < owners; owner++) {
            all.add(new int[] {3, a, owner});
        }
    }

    private int owner() {
        return random.nextInt(owners);
    }

    private int amount() {
        return 1 + random.nextInt(scale);
    }
}
