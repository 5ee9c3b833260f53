import java.util.Random;

/** Runs of 512 calls of all kinds, made up from fixed seeds: each answer must be the reference's. */
public final class ReferenceTest {
    private static final int RUNS = 3000;
    private static final int[] ODD = {-1, Integer.MIN_VALUE, Integer.MAX_VALUE, 30, 81, 1000001, 0};

    private final Due due;
    private final Random random;
    private final Both both;
    private final ReferenceDesk reference;
    /** How large worths are in this run: small ones make many like cuts, large ones long products. */
    private final int scale;
    private final int owners;
    /** How many calls of a hundred are events, and how many of the events are taken back. */
    private final int eventful;
    private final int backs;

    private ReferenceTest(Due due, int seed) {
        this.due = due;
        due.part("seed " + seed);
        both = new Both(due);
        reference = both.reference;
        random = new Random(seed);
        scale = new int[] {3, 12, 100, 1000, 1000000}[random.nextInt(5)];
        owners = new int[] {2, 5, 30}[random.nextInt(3)];
        eventful = new int[] {30, 60, 90}[random.nextInt(3)];
        backs = new int[] {0, 5, 20}[random.nextInt(3)];
    }

    public static void main(String[] args) {
        Due due = new Due("ReferenceTest");
        for (int seed = 0; seed < RUNS && due.failed() == 0; seed++) {
            new ReferenceTest(due, seed).run();
        }
        due.end();
    }

    private void run() {
        if (random.nextInt(20) == 0) {
            crowd();
        }
        while (both.callsLeft() > 0 && due.failed() == 0) {
            if (reference.count() == 0 || random.nextInt(60) == 0) {
                both.call("voyage", owner(), amount(), odd(2 + random.nextInt(random.nextInt(3) == 0 ? 9 : 3)));
            } else if (random.nextInt(100) < eventful) {
                event(voyage());
            } else {
                question(voyage());
            }
        }
    }

    /** A voyage with as many lots as it takes, and one too many. */
    private void crowd() {
        both.call("voyage", random.nextInt(owners), 1 + random.nextInt(scale), 3);
        for (int i = 0; i < 80; i++) {
            load(0);
        }
    }

    private int odd(int plain) {
        return random.nextInt(40) == 0 ? ODD[random.nextInt(ODD.length)] : plain;
    }

    private int voyage() {
        return odd(random.nextInt(Math.max(1, reference.count())));
    }

    private int owner() {
        return odd(random.nextInt(owners));
    }

    private int amount() {
        return odd(1 + random.nextInt(scale));
    }

    private int interestOf(int v) {
        return odd(random.nextInt(Math.max(1, reference.told(v, 3))));
    }

    private int actOf(int v) {
        return odd(random.nextInt(Math.max(1, reference.told(v, 4))));
    }

    private int leftPart(int v, int i) {
        int left = Math.max(1, reference.interest(v, i, 2));
        return odd(random.nextInt(6) == 0 ? left : 1 + random.nextInt(left));
    }

    private void event(int v) {
        if (random.nextInt(100) < backs) {
            both.call("back", v);
            return;
        }
        int i = interestOf(v);
        switch (random.nextInt(12)) {
            case 0, 1, 2 -> load(v);
            case 3, 4 -> both.call("move", v);
            case 5 -> both.call("act", v);
            case 6, 7 -> both.call("give", v, i, leftPart(v, i));
            case 8, 9 -> both.call("spend", v, owner(), amount());
            case 10 -> both.call("lose", v, i, leftPart(v, i));
            default -> both.call(random.nextInt(4) == 0 ? "lost" : "act", v);
        }
    }

    private void load(int v) {
        int worth = amount();
        int told = random.nextInt(3) == 0 ? worth : 1 + random.nextInt(Math.max(1, Math.min(worth, scale)));
        int freight = random.nextInt(2) == 0 ? 0 : amount();
        int terms = random.nextInt(3) == 0 ? random.nextInt(3) : 0;
        int port = Math.max(0, reference.told(v, 0)) + 1 + random.nextInt(3);
        both.call("lot", v, owner(), worth, odd(told), odd(port), freight, odd(terms));
    }

    private void question(int v) {
        int i = interestOf(v);
        int a = actOf(v);
        switch (random.nextInt(10)) {
            case 0 -> both.call("told", v, odd(random.nextInt(7)));
            case 1 -> both.call("interest", v, i, odd(random.nextInt(9)));
            case 2, 3 -> both.call("share", v, a, i, odd(random.nextInt(5)));
            case 4 -> both.call("sum", v, a, odd(random.nextInt(5)));
            case 5 -> both.call("gets", v, a, owner());
            case 6 -> both.call("without", v, a, i);
            case 7 -> both.call("balance", v, owner());
            case 8 -> both.call(random.nextInt(3) == 0 ? "count" : "payments", v);
            default -> both.call("payment", v, odd(random.nextInt(Math.max(1, reference.payments(v)))),
                    odd(random.nextInt(3)));
        }
    }
}
